theorem dX0_init_0 : decode cX0_init 0 = .ok (.aload_n 0, 1) := by decide +kernel
theorem dX0_init_1 : decode cX0_init 1 = .ok (.invokespecial 1, 3) := by decide +kernel
theorem dX0_init_4 : decode cX0_init 4 = .ok (.return_, 1) := by decide +kernel
theorem dX0_smearBeginning_0 : decode cX0_smearBeginning 0 = .ok (.iload_n 0, 1) := by decide +kernel
theorem dX0_smearBeginning_1 : decode cX0_smearBeginning 1 = .ok (.i2l, 1) := by decide +kernel
theorem dX0_smearBeginning_2 : decode cX0_smearBeginning 2 = .ok (.lconst 1, 1) := by decide +kernel
theorem dX0_smearBeginning_3 : decode cX0_smearBeginning 3 = .ok (.ladd, 1) := by decide +kernel
theorem dX0_smearBeginning_4 : decode cX0_smearBeginning 4 = .ok (.ldc2_w 9, 3) := by decide +kernel
theorem dX0_smearBeginning_7 : decode cX0_smearBeginning 7 = .ok (.lmul, 1) := by decide +kernel
theorem dX0_smearBeginning_8 : decode cX0_smearBeginning 8 = .ok (.ldc2_w 11, 3) := by decide +kernel
theorem dX0_smearBeginning_11 : decode cX0_smearBeginning 11 = .ok (.lsub, 1) := by decide +kernel
theorem dX0_smearBeginning_12 : decode cX0_smearBeginning 12 = .ok (.lreturn, 1) := by decide +kernel
theorem dX0_clear_0 : decode cX0_clear 0 = .ok (.aload_n 0, 1) := by decide +kernel
theorem dX0_clear_1 : decode cX0_clear 1 = .ok (.iconst 0, 1) := by decide +kernel
theorem dX0_clear_2 : decode cX0_clear 2 = .ok (.putfield 13, 3) := by decide +kernel
theorem dX0_clear_5 : decode cX0_clear 5 = .ok (.aload_n 0, 1) := by decide +kernel
theorem dX0_clear_6 : decode cX0_clear 6 = .ok (.iconst 0, 1) := by decide +kernel
theorem dX0_clear_7 : decode cX0_clear 7 = .ok (.putfield 17, 3) := by decide +kernel
theorem dX0_clear_10 : decode cX0_clear 10 = .ok (.return_, 1) := by decide +kernel
theorem dX0_isAnnounced_0 : decode cX0_isAnnounced 0 = .ok (.aload_n 0, 1) := by decide +kernel
theorem dX0_isAnnounced_1 : decode cX0_isAnnounced 1 = .ok (.getfield 13, 3) := by decide +kernel
theorem dX0_isAnnounced_4 : decode cX0_isAnnounced 4 = .ok (.aload_n 0, 1) := by decide +kernel
theorem dX0_isAnnounced_5 : decode cX0_isAnnounced 5 = .ok (.getfield 17, 3) := by decide +kernel
theorem dX0_isAnnounced_8 : decode cX0_isAnnounced 8 = .ok (.ior, 1) := by decide +kernel
theorem dX0_isAnnounced_9 : decode cX0_isAnnounced 9 = .ok (.iload_n 1, 1) := by decide +kernel
theorem dX0_isAnnounced_10 : decode cX0_isAnnounced 10 = .ok (.invokestatic 20, 3) := by decide +kernel
theorem dX0_isAnnounced_13 : decode cX0_isAnnounced 13 = .ok (.ireturn, 1) := by decide +kernel
theorem dX0_announce_0 : decode cX0_announce 0 = .ok (.iload_n 2, 1) := by decide +kernel
theorem dX0_announce_1 : decode cX0_announce 1 = .ok (.ifCond .eq 18, 3) := by decide +kernel
theorem dX0_announce_4 : decode cX0_announce 4 = .ok (.aload_n 0, 1) := by decide +kernel
theorem dX0_announce_5 : decode cX0_announce 5 = .ok (.dup, 1) := by decide +kernel
theorem dX0_announce_6 : decode cX0_announce 6 = .ok (.getfield 13, 3) := by decide +kernel
theorem dX0_announce_9 : decode cX0_announce 9 = .ok (.iconst 1, 1) := by decide +kernel
theorem dX0_announce_10 : decode cX0_announce 10 = .ok (.iload_n 1, 1) := by decide +kernel
theorem dX0_announce_11 : decode cX0_announce 11 = .ok (.ishl, 1) := by decide +kernel
theorem dX0_announce_12 : decode cX0_announce 12 = .ok (.ior, 1) := by decide +kernel
theorem dX0_announce_13 : decode cX0_announce 13 = .ok (.putfield 13, 3) := by decide +kernel
theorem dX0_announce_16 : decode cX0_announce 16 = .ok (.goto 15, 3) := by decide +kernel
theorem dX0_announce_19 : decode cX0_announce 19 = .ok (.aload_n 0, 1) := by decide +kernel
theorem dX0_announce_20 : decode cX0_announce 20 = .ok (.dup, 1) := by decide +kernel
theorem dX0_announce_21 : decode cX0_announce 21 = .ok (.getfield 17, 3) := by decide +kernel
theorem dX0_announce_24 : decode cX0_announce 24 = .ok (.iconst 1, 1) := by decide +kernel
theorem dX0_announce_25 : decode cX0_announce 25 = .ok (.iload_n 1, 1) := by decide +kernel
theorem dX0_announce_26 : decode cX0_announce 26 = .ok (.ishl, 1) := by decide +kernel
theorem dX0_announce_27 : decode cX0_announce 27 = .ok (.ior, 1) := by decide +kernel
theorem dX0_announce_28 : decode cX0_announce 28 = .ok (.putfield 17, 3) := by decide +kernel
theorem dX0_announce_31 : decode cX0_announce 31 = .ok (.return_, 1) := by decide +kernel
theorem dX0_civilTime_0 : decode cX0_civilTime 0 = .ok (.lload_n 1, 1) := by decide +kernel
theorem dX0_civilTime_1 : decode cX0_civilTime 1 = .ok (.lstore_n 3, 1) := by decide +kernel
theorem dX0_civilTime_2 : decode cX0_civilTime 2 = .ok (.iconst 0, 1) := by decide +kernel
theorem dX0_civilTime_3 : decode cX0_civilTime 3 = .ok (.istore 5, 2) := by decide +kernel
theorem dX0_civilTime_5 : decode cX0_civilTime 5 = .ok (.iload 5, 2) := by decide +kernel
theorem dX0_civilTime_7 : decode cX0_civilTime 7 = .ok (.bipush 20, 2) := by decide +kernel
theorem dX0_civilTime_9 : decode cX0_civilTime 9 = .ok (.if_icmp .gt 51, 3) := by decide +kernel
theorem dX0_civilTime_12 : decode cX0_civilTime 12 = .ok (.aload_n 0, 1) := by decide +kernel
theorem dX0_civilTime_13 : decode cX0_civilTime 13 = .ok (.getfield 13, 3) := by decide +kernel
theorem dX0_civilTime_16 : decode cX0_civilTime 16 = .ok (.iload 5, 2) := by decide +kernel
theorem dX0_civilTime_18 : decode cX0_civilTime 18 = .ok (.invokestatic 20, 3) := by decide +kernel
theorem dX0_civilTime_21 : decode cX0_civilTime 21 = .ok (.ifCond .eq 12, 3) := by decide +kernel
theorem dX0_civilTime_24 : decode cX0_civilTime 24 = .ok (.lload_n 3, 1) := by decide +kernel
theorem dX0_civilTime_25 : decode cX0_civilTime 25 = .ok (.iload 5, 2) := by decide +kernel
theorem dX0_civilTime_27 : decode cX0_civilTime 27 = .ok (.lload_n 1, 1) := by decide +kernel
theorem dX0_civilTime_28 : decode cX0_civilTime 28 = .ok (.invokestatic 24, 3) := by decide +kernel
theorem dX0_civilTime_31 : decode cX0_civilTime 31 = .ok (.lsub, 1) := by decide +kernel
theorem dX0_civilTime_32 : decode cX0_civilTime 32 = .ok (.lstore_n 3, 1) := by decide +kernel
theorem dX0_civilTime_33 : decode cX0_civilTime 33 = .ok (.aload_n 0, 1) := by decide +kernel
theorem dX0_civilTime_34 : decode cX0_civilTime 34 = .ok (.getfield 17, 3) := by decide +kernel
theorem dX0_civilTime_37 : decode cX0_civilTime 37 = .ok (.iload 5, 2) := by decide +kernel
theorem dX0_civilTime_39 : decode cX0_civilTime 39 = .ok (.invokestatic 20, 3) := by decide +kernel
theorem dX0_civilTime_42 : decode cX0_civilTime 42 = .ok (.ifCond .eq 12, 3) := by decide +kernel
theorem dX0_civilTime_45 : decode cX0_civilTime 45 = .ok (.lload_n 3, 1) := by decide +kernel
theorem dX0_civilTime_46 : decode cX0_civilTime 46 = .ok (.iload 5, 2) := by decide +kernel
theorem dX0_civilTime_48 : decode cX0_civilTime 48 = .ok (.lload_n 1, 1) := by decide +kernel
theorem dX0_civilTime_49 : decode cX0_civilTime 49 = .ok (.invokestatic 24, 3) := by decide +kernel
theorem dX0_civilTime_52 : decode cX0_civilTime 52 = .ok (.ladd, 1) := by decide +kernel
theorem dX0_civilTime_53 : decode cX0_civilTime 53 = .ok (.lstore_n 3, 1) := by decide +kernel
theorem dX0_civilTime_54 : decode cX0_civilTime 54 = .ok (.iinc 5 1, 3) := by decide +kernel
theorem dX0_civilTime_57 : decode cX0_civilTime 57 = .ok (.goto (-52), 3) := by decide +kernel
theorem dX0_civilTime_60 : decode cX0_civilTime 60 = .ok (.lload_n 3, 1) := by decide +kernel
theorem dX0_civilTime_61 : decode cX0_civilTime 61 = .ok (.lreturn, 1) := by decide +kernel
theorem dX0_contains_0 : decode cX0_contains 0 = .ok (.iload_n 0, 1) := by decide +kernel
theorem dX0_contains_1 : decode cX0_contains 1 = .ok (.iload_n 1, 1) := by decide +kernel
theorem dX0_contains_2 : decode cX0_contains 2 = .ok (.ishr, 1) := by decide +kernel
theorem dX0_contains_3 : decode cX0_contains 3 = .ok (.iconst 1, 1) := by decide +kernel
theorem dX0_contains_4 : decode cX0_contains 4 = .ok (.iand, 1) := by decide +kernel
theorem dX0_contains_5 : decode cX0_contains 5 = .ok (.ifCond .eq 7, 3) := by decide +kernel
theorem dX0_contains_8 : decode cX0_contains 8 = .ok (.iconst 1, 1) := by decide +kernel
theorem dX0_contains_9 : decode cX0_contains 9 = .ok (.goto 4, 3) := by decide +kernel
theorem dX0_contains_12 : decode cX0_contains 12 = .ok (.iconst 0, 1) := by decide +kernel
theorem dX0_contains_13 : decode cX0_contains 13 = .ok (.ireturn, 1) := by decide +kernel
theorem dX0_partCome_0 : decode cX0_partCome 0 = .ok (.lload_n 1, 1) := by decide +kernel
theorem dX0_partCome_1 : decode cX0_partCome 1 = .ok (.iload_n 0, 1) := by decide +kernel
theorem dX0_partCome_2 : decode cX0_partCome 2 = .ok (.invokestatic 28, 3) := by decide +kernel
theorem dX0_partCome_5 : decode cX0_partCome 5 = .ok (.lsub, 1) := by decide +kernel
theorem dX0_partCome_6 : decode cX0_partCome 6 = .ok (.lstore_n 3, 1) := by decide +kernel
theorem dX0_partCome_7 : decode cX0_partCome 7 = .ok (.lload_n 3, 1) := by decide +kernel
theorem dX0_partCome_8 : decode cX0_partCome 8 = .ok (.lconst 0, 1) := by decide +kernel
theorem dX0_partCome_9 : decode cX0_partCome 9 = .ok (.lcmp, 1) := by decide +kernel
theorem dX0_partCome_10 : decode cX0_partCome 10 = .ok (.ifCond .ge 5, 3) := by decide +kernel
theorem dX0_partCome_13 : decode cX0_partCome 13 = .ok (.lconst 0, 1) := by decide +kernel
theorem dX0_partCome_14 : decode cX0_partCome 14 = .ok (.lreturn, 1) := by decide +kernel
theorem dX0_partCome_15 : decode cX0_partCome 15 = .ok (.lload_n 3, 1) := by decide +kernel
theorem dX0_partCome_16 : decode cX0_partCome 16 = .ok (.ldc2_w 11, 3) := by decide +kernel
theorem dX0_partCome_19 : decode cX0_partCome 19 = .ok (.lcmp, 1) := by decide +kernel
theorem dX0_partCome_20 : decode cX0_partCome 20 = .ok (.ifCond .ge 11, 3) := by decide +kernel
theorem dX0_partCome_23 : decode cX0_partCome 23 = .ok (.lload_n 3, 1) := by decide +kernel
theorem dX0_partCome_24 : decode cX0_partCome 24 = .ok (.ldc2_w 32, 3) := by decide +kernel
theorem dX0_partCome_27 : decode cX0_partCome 27 = .ok (.ldiv, 1) := by decide +kernel
theorem dX0_partCome_28 : decode cX0_partCome 28 = .ok (.goto 6, 3) := by decide +kernel
theorem dX0_partCome_31 : decode cX0_partCome 31 = .ok (.ldc2_w 34, 3) := by decide +kernel
theorem dX0_partCome_34 : decode cX0_partCome 34 = .ok (.lreturn, 1) := by decide +kernel
theorem dX1_init_0 : decode cX1_init 0 = .ok (.aload_n 0, 1) := by decide +kernel
theorem dX1_init_1 : decode cX1_init 1 = .ok (.invokespecial 3, 3) := by decide +kernel
theorem dX1_init_4 : decode cX1_init 4 = .ok (.return_, 1) := by decide +kernel
theorem dX1_begin_0 : decode cX1_begin 0 = .ok (.aload_n 0, 1) := by decide +kernel
theorem dX1_begin_1 : decode cX1_begin 1 = .ok (.iload_n 1, 1) := by decide +kernel
theorem dX1_begin_2 : decode cX1_begin 2 = .ok (.i2l, 1) := by decide +kernel
theorem dX1_begin_3 : decode cX1_begin 3 = .ok (.ldc2_w 9, 3) := by decide +kernel
theorem dX1_begin_6 : decode cX1_begin 6 = .ok (.lmul, 1) := by decide +kernel
theorem dX1_begin_7 : decode cX1_begin 7 = .ok (.putfield 11, 3) := by decide +kernel
theorem dX1_begin_10 : decode cX1_begin 10 = .ok (.aload_n 0, 1) := by decide +kernel
theorem dX1_begin_11 : decode cX1_begin 11 = .ok (.lconst 0, 1) := by decide +kernel
theorem dX1_begin_12 : decode cX1_begin 12 = .ok (.putfield 17, 3) := by decide +kernel
theorem dX1_begin_15 : decode cX1_begin 15 = .ok (.aload_n 0, 1) := by decide +kernel
theorem dX1_begin_16 : decode cX1_begin 16 = .ok (.iconst 0, 1) := by decide +kernel
theorem dX1_begin_17 : decode cX1_begin 17 = .ok (.putfield 20, 3) := by decide +kernel
theorem dX1_begin_20 : decode cX1_begin 20 = .ok (.aload_n 0, 1) := by decide +kernel
theorem dX1_begin_21 : decode cX1_begin 21 = .ok (.iconst 0, 1) := by decide +kernel
theorem dX1_begin_22 : decode cX1_begin 22 = .ok (.putfield 24, 3) := by decide +kernel
theorem dX1_begin_25 : decode cX1_begin 25 = .ok (.return_, 1) := by decide +kernel
theorem dX1_reading_0 : decode cX1_reading 0 = .ok (.aload_n 0, 1) := by decide +kernel
theorem dX1_reading_1 : decode cX1_reading 1 = .ok (.getfield 11, 3) := by decide +kernel
theorem dX1_reading_4 : decode cX1_reading 4 = .ok (.ldc2_w 9, 3) := by decide +kernel
theorem dX1_reading_7 : decode cX1_reading 7 = .ok (.invokestatic 27, 3) := by decide +kernel
theorem dX1_reading_10 : decode cX1_reading 10 = .ok (.lreturn, 1) := by decide +kernel
theorem dX1_pendingMicros_0 : decode cX1_pendingMicros 0 = .ok (.aload_n 0, 1) := by decide +kernel
theorem dX1_pendingMicros_1 : decode cX1_pendingMicros 1 = .ok (.getfield 17, 3) := by decide +kernel
theorem dX1_pendingMicros_4 : decode cX1_pendingMicros 4 = .ok (.ldc2_w 9, 3) := by decide +kernel
theorem dX1_pendingMicros_7 : decode cX1_pendingMicros 7 = .ok (.ldiv, 1) := by decide +kernel
theorem dX1_pendingMicros_8 : decode cX1_pendingMicros 8 = .ok (.lreturn, 1) := by decide +kernel
theorem dX1_presentCorrection_0 : decode cX1_presentCorrection 0 = .ok (.aload_n 0, 1) := by decide +kernel
theorem dX1_presentCorrection_1 : decode cX1_presentCorrection 1 = .ok (.getfield 24, 3) := by decide +kernel
theorem dX1_presentCorrection_4 : decode cX1_presentCorrection 4 = .ok (.ireturn, 1) := by decide +kernel
theorem dX1_changeDrift_0 : decode cX1_changeDrift 0 = .ok (.aload_n 0, 1) := by decide +kernel
theorem dX1_changeDrift_1 : decode cX1_changeDrift 1 = .ok (.getfield 20, 3) := by decide +kernel
theorem dX1_changeDrift_4 : decode cX1_changeDrift 4 = .ok (.istore_n 2, 1) := by decide +kernel
theorem dX1_changeDrift_5 : decode cX1_changeDrift 5 = .ok (.aload_n 0, 1) := by decide +kernel
theorem dX1_changeDrift_6 : decode cX1_changeDrift 6 = .ok (.iload_n 1, 1) := by decide +kernel
theorem dX1_changeDrift_7 : decode cX1_changeDrift 7 = .ok (.putfield 20, 3) := by decide +kernel
theorem dX1_changeDrift_10 : decode cX1_changeDrift 10 = .ok (.iload_n 2, 1) := by decide +kernel
theorem dX1_changeDrift_11 : decode cX1_changeDrift 11 = .ok (.ireturn, 1) := by decide +kernel
theorem dX1_elapse_0 : decode cX1_elapse 0 = .ok (.ldc2_w 33, 3) := by decide +kernel
theorem dX1_elapse_3 : decode cX1_elapse 3 = .ok (.iload_n 1, 1) := by decide +kernel
theorem dX1_elapse_4 : decode cX1_elapse 4 = .ok (.i2l, 1) := by decide +kernel
theorem dX1_elapse_5 : decode cX1_elapse 5 = .ok (.lmul, 1) := by decide +kernel
theorem dX1_elapse_6 : decode cX1_elapse 6 = .ok (.lstore_n 2, 1) := by decide +kernel
theorem dX1_elapse_7 : decode cX1_elapse 7 = .ok (.lload_n 2, 1) := by decide +kernel
theorem dX1_elapse_8 : decode cX1_elapse 8 = .ok (.lneg, 1) := by decide +kernel
theorem dX1_elapse_9 : decode cX1_elapse 9 = .ok (.lload_n 2, 1) := by decide +kernel
theorem dX1_elapse_10 : decode cX1_elapse 10 = .ok (.aload_n 0, 1) := by decide +kernel
theorem dX1_elapse_11 : decode cX1_elapse 11 = .ok (.getfield 17, 3) := by decide +kernel
theorem dX1_elapse_14 : decode cX1_elapse 14 = .ok (.invokestatic 35, 3) := by decide +kernel
theorem dX1_elapse_17 : decode cX1_elapse 17 = .ok (.invokestatic 38, 3) := by decide +kernel
theorem dX1_elapse_20 : decode cX1_elapse 20 = .ok (.lstore 4, 2) := by decide +kernel
theorem dX1_elapse_22 : decode cX1_elapse 22 = .ok (.aload_n 0, 1) := by decide +kernel
theorem dX1_elapse_23 : decode cX1_elapse 23 = .ok (.dup, 1) := by decide +kernel
theorem dX1_elapse_24 : decode cX1_elapse 24 = .ok (.getfield 11, 3) := by decide +kernel
theorem dX1_elapse_27 : decode cX1_elapse 27 = .ok (.iload_n 1, 1) := by decide +kernel
theorem dX1_elapse_28 : decode cX1_elapse 28 = .ok (.i2l, 1) := by decide +kernel
theorem dX1_elapse_29 : decode cX1_elapse 29 = .ok (.ldc2_w 9, 3) := by decide +kernel
theorem dX1_elapse_32 : decode cX1_elapse 32 = .ok (.aload_n 0, 1) := by decide +kernel
theorem dX1_elapse_33 : decode cX1_elapse 33 = .ok (.getfield 20, 3) := by decide +kernel
theorem dX1_elapse_36 : decode cX1_elapse 36 = .ok (.i2l, 1) := by decide +kernel
theorem dX1_elapse_37 : decode cX1_elapse 37 = .ok (.ladd, 1) := by decide +kernel
theorem dX1_elapse_38 : decode cX1_elapse 38 = .ok (.aload_n 0, 1) := by decide +kernel
theorem dX1_elapse_39 : decode cX1_elapse 39 = .ok (.getfield 24, 3) := by decide +kernel
theorem dX1_elapse_42 : decode cX1_elapse 42 = .ok (.i2l, 1) := by decide +kernel
theorem dX1_elapse_43 : decode cX1_elapse 43 = .ok (.ladd, 1) := by decide +kernel
theorem dX1_elapse_44 : decode cX1_elapse 44 = .ok (.lmul, 1) := by decide +kernel
theorem dX1_elapse_45 : decode cX1_elapse 45 = .ok (.lload 4, 2) := by decide +kernel
theorem dX1_elapse_47 : decode cX1_elapse 47 = .ok (.ladd, 1) := by decide +kernel
theorem dX1_elapse_48 : decode cX1_elapse 48 = .ok (.ladd, 1) := by decide +kernel
theorem dX1_elapse_49 : decode cX1_elapse 49 = .ok (.putfield 11, 3) := by decide +kernel
theorem dX1_elapse_52 : decode cX1_elapse 52 = .ok (.aload_n 0, 1) := by decide +kernel
theorem dX1_elapse_53 : decode cX1_elapse 53 = .ok (.dup, 1) := by decide +kernel
theorem dX1_elapse_54 : decode cX1_elapse 54 = .ok (.getfield 17, 3) := by decide +kernel
theorem dX1_elapse_57 : decode cX1_elapse 57 = .ok (.lload 4, 2) := by decide +kernel
theorem dX1_elapse_59 : decode cX1_elapse 59 = .ok (.lsub, 1) := by decide +kernel
theorem dX1_elapse_60 : decode cX1_elapse 60 = .ok (.putfield 17, 3) := by decide +kernel
theorem dX1_elapse_63 : decode cX1_elapse 63 = .ok (.return_, 1) := by decide +kernel
theorem dX1_addCorrection_0 : decode cX1_addCorrection 0 = .ok (.aload_n 0, 1) := by decide +kernel
theorem dX1_addCorrection_1 : decode cX1_addCorrection 1 = .ok (.getfield 24, 3) := by decide +kernel
theorem dX1_addCorrection_4 : decode cX1_addCorrection 4 = .ok (.i2l, 1) := by decide +kernel
theorem dX1_addCorrection_5 : decode cX1_addCorrection 5 = .ok (.lload_n 1, 1) := by decide +kernel
theorem dX1_addCorrection_6 : decode cX1_addCorrection 6 = .ok (.ladd, 1) := by decide +kernel
theorem dX1_addCorrection_7 : decode cX1_addCorrection 7 = .ok (.lstore_n 3, 1) := by decide +kernel
theorem dX1_addCorrection_8 : decode cX1_addCorrection 8 = .ok (.aload_n 0, 1) := by decide +kernel
theorem dX1_addCorrection_9 : decode cX1_addCorrection 9 = .ok (.ldc2_w 41, 3) := by decide +kernel
theorem dX1_addCorrection_12 : decode cX1_addCorrection 12 = .ok (.ldc2_w 33, 3) := by decide +kernel
theorem dX1_addCorrection_15 : decode cX1_addCorrection 15 = .ok (.lload_n 3, 1) := by decide +kernel
theorem dX1_addCorrection_16 : decode cX1_addCorrection 16 = .ok (.invokestatic 35, 3) := by decide +kernel
theorem dX1_addCorrection_19 : decode cX1_addCorrection 19 = .ok (.invokestatic 38, 3) := by decide +kernel
theorem dX1_addCorrection_22 : decode cX1_addCorrection 22 = .ok (.l2i, 1) := by decide +kernel
theorem dX1_addCorrection_23 : decode cX1_addCorrection 23 = .ok (.putfield 24, 3) := by decide +kernel
theorem dX1_addCorrection_26 : decode cX1_addCorrection 26 = .ok (.return_, 1) := by decide +kernel
theorem dX1_step_0 : decode cX1_step 0 = .ok (.aload_n 0, 1) := by decide +kernel
theorem dX1_step_1 : decode cX1_step 1 = .ok (.dup, 1) := by decide +kernel
theorem dX1_step_2 : decode cX1_step 2 = .ok (.getfield 11, 3) := by decide +kernel
theorem dX1_step_5 : decode cX1_step 5 = .ok (.lload_n 1, 1) := by decide +kernel
theorem dX1_step_6 : decode cX1_step 6 = .ok (.ldc2_w 9, 3) := by decide +kernel
theorem dX1_step_9 : decode cX1_step 9 = .ok (.lmul, 1) := by decide +kernel
theorem dX1_step_10 : decode cX1_step 10 = .ok (.ladd, 1) := by decide +kernel
theorem dX1_step_11 : decode cX1_step 11 = .ok (.putfield 11, 3) := by decide +kernel
theorem dX1_step_14 : decode cX1_step 14 = .ok (.aload_n 0, 1) := by decide +kernel
theorem dX1_step_15 : decode cX1_step 15 = .ok (.lconst 0, 1) := by decide +kernel
theorem dX1_step_16 : decode cX1_step 16 = .ok (.putfield 17, 3) := by decide +kernel
theorem dX1_step_19 : decode cX1_step 19 = .ok (.return_, 1) := by decide +kernel
theorem dX1_slew_0 : decode cX1_slew 0 = .ok (.aload_n 0, 1) := by decide +kernel
theorem dX1_slew_1 : decode cX1_slew 1 = .ok (.lload_n 1, 1) := by decide +kernel
theorem dX1_slew_2 : decode cX1_slew 2 = .ok (.ldc2_w 9, 3) := by decide +kernel
theorem dX1_slew_5 : decode cX1_slew 5 = .ok (.lmul, 1) := by decide +kernel
theorem dX1_slew_6 : decode cX1_slew 6 = .ok (.putfield 17, 3) := by decide +kernel
theorem dX1_slew_9 : decode cX1_slew 9 = .ok (.return_, 1) := by decide +kernel
theorem dX2_init_0 : decode cX2_init 0 = .ok (.aload_n 0, 1) := by decide +kernel
theorem dX2_init_1 : decode cX2_init 1 = .ok (.invokespecial 1, 3) := by decide +kernel
theorem dX2_init_4 : decode cX2_init 4 = .ok (.aload_n 0, 1) := by decide +kernel
theorem dX2_init_5 : decode cX2_init 5 = .ok (.bipush 8, 2) := by decide +kernel
theorem dX2_init_7 : decode cX2_init 7 = .ok (.newarray .long, 2) := by decide +kernel
theorem dX2_init_9 : decode cX2_init 9 = .ok (.putfield 9, 3) := by decide +kernel
theorem dX2_init_12 : decode cX2_init 12 = .ok (.return_, 1) := by decide +kernel
theorem dX2_get_0 : decode cX2_get 0 = .ok (.iload_n 1, 1) := by decide +kernel
theorem dX2_get_1 : decode cX2_get 1 = .ok (.ifCond .lt 21, 3) := by decide +kernel
theorem dX2_get_4 : decode cX2_get 4 = .ok (.iload_n 1, 1) := by decide +kernel
theorem dX2_get_5 : decode cX2_get 5 = .ok (.aload_n 0, 1) := by decide +kernel
theorem dX2_get_6 : decode cX2_get 6 = .ok (.getfield 9, 3) := by decide +kernel
theorem dX2_get_9 : decode cX2_get 9 = .ok (.arraylength, 1) := by decide +kernel
theorem dX2_get_10 : decode cX2_get 10 = .ok (.if_icmp .ge 12, 3) := by decide +kernel
theorem dX2_get_13 : decode cX2_get 13 = .ok (.aload_n 0, 1) := by decide +kernel
theorem dX2_get_14 : decode cX2_get 14 = .ok (.getfield 9, 3) := by decide +kernel
theorem dX2_get_17 : decode cX2_get 17 = .ok (.iload_n 1, 1) := by decide +kernel
theorem dX2_get_18 : decode cX2_get 18 = .ok (.laload, 1) := by decide +kernel
theorem dX2_get_19 : decode cX2_get 19 = .ok (.goto 4, 3) := by decide +kernel
theorem dX2_get_22 : decode cX2_get 22 = .ok (.lconst 0, 1) := by decide +kernel
theorem dX2_get_23 : decode cX2_get 23 = .ok (.lreturn, 1) := by decide +kernel
theorem dX2_put_0 : decode cX2_put 0 = .ok (.iload_n 1, 1) := by decide +kernel
theorem dX2_put_1 : decode cX2_put 1 = .ok (.ifCond .lt 19, 3) := by decide +kernel
theorem dX2_put_4 : decode cX2_put 4 = .ok (.iload_n 1, 1) := by decide +kernel
theorem dX2_put_5 : decode cX2_put 5 = .ok (.aload_n 0, 1) := by decide +kernel
theorem dX2_put_6 : decode cX2_put 6 = .ok (.getfield 9, 3) := by decide +kernel
theorem dX2_put_9 : decode cX2_put 9 = .ok (.arraylength, 1) := by decide +kernel
theorem dX2_put_10 : decode cX2_put 10 = .ok (.if_icmp .ge 10, 3) := by decide +kernel
theorem dX2_put_13 : decode cX2_put 13 = .ok (.aload_n 0, 1) := by decide +kernel
theorem dX2_put_14 : decode cX2_put 14 = .ok (.getfield 9, 3) := by decide +kernel
theorem dX2_put_17 : decode cX2_put 17 = .ok (.iload_n 1, 1) := by decide +kernel
theorem dX2_put_18 : decode cX2_put 18 = .ok (.lload_n 2, 1) := by decide +kernel
theorem dX2_put_19 : decode cX2_put 19 = .ok (.lastore, 1) := by decide +kernel
theorem dX2_put_20 : decode cX2_put 20 = .ok (.return_, 1) := by decide +kernel
theorem dX2_push_0 : decode cX2_push 0 = .ok (.bipush 7, 2) := by decide +kernel
theorem dX2_push_2 : decode cX2_push 2 = .ok (.istore_n 3, 1) := by decide +kernel
theorem dX2_push_3 : decode cX2_push 3 = .ok (.iload_n 3, 1) := by decide +kernel
theorem dX2_push_4 : decode cX2_push 4 = .ok (.ifCond .le 21, 3) := by decide +kernel
theorem dX2_push_7 : decode cX2_push 7 = .ok (.aload_n 0, 1) := by decide +kernel
theorem dX2_push_8 : decode cX2_push 8 = .ok (.iload_n 3, 1) := by decide +kernel
theorem dX2_push_9 : decode cX2_push 9 = .ok (.aload_n 0, 1) := by decide +kernel
theorem dX2_push_10 : decode cX2_push 10 = .ok (.iload_n 3, 1) := by decide +kernel
theorem dX2_push_11 : decode cX2_push 11 = .ok (.iconst 1, 1) := by decide +kernel
theorem dX2_push_12 : decode cX2_push 12 = .ok (.isub, 1) := by decide +kernel
theorem dX2_push_13 : decode cX2_push 13 = .ok (.invokevirtual 13, 3) := by decide +kernel
theorem dX2_push_16 : decode cX2_push 16 = .ok (.invokevirtual 17, 3) := by decide +kernel
theorem dX2_push_19 : decode cX2_push 19 = .ok (.iinc 3 (-1), 3) := by decide +kernel
theorem dX2_push_22 : decode cX2_push 22 = .ok (.goto (-19), 3) := by decide +kernel
theorem dX2_push_25 : decode cX2_push 25 = .ok (.aload_n 0, 1) := by decide +kernel
theorem dX2_push_26 : decode cX2_push 26 = .ok (.iconst 0, 1) := by decide +kernel
theorem dX2_push_27 : decode cX2_push 27 = .ok (.lload_n 1, 1) := by decide +kernel
theorem dX2_push_28 : decode cX2_push 28 = .ok (.invokevirtual 17, 3) := by decide +kernel
theorem dX2_push_31 : decode cX2_push 31 = .ok (.return_, 1) := by decide +kernel
theorem dX3_init_0 : decode cX3_init 0 = .ok (.aload_n 0, 1) := by decide +kernel
theorem dX3_init_1 : decode cX3_init 1 = .ok (.invokespecial 3, 3) := by decide +kernel
theorem dX3_init_4 : decode cX3_init 4 = .ok (.aload_n 0, 1) := by decide +kernel
theorem dX3_init_5 : decode cX3_init 5 = .ok (.new 9, 3) := by decide +kernel
theorem dX3_init_8 : decode cX3_init 8 = .ok (.dup, 1) := by decide +kernel
theorem dX3_init_9 : decode cX3_init 9 = .ok (.invokespecial 11, 3) := by decide +kernel
theorem dX3_init_12 : decode cX3_init 12 = .ok (.putfield 12, 3) := by decide +kernel
theorem dX3_init_15 : decode cX3_init 15 = .ok (.aload_n 0, 1) := by decide +kernel
theorem dX3_init_16 : decode cX3_init 16 = .ok (.new 9, 3) := by decide +kernel
theorem dX3_init_19 : decode cX3_init 19 = .ok (.dup, 1) := by decide +kernel
theorem dX3_init_20 : decode cX3_init 20 = .ok (.invokespecial 11, 3) := by decide +kernel
theorem dX3_init_23 : decode cX3_init 23 = .ok (.putfield 18, 3) := by decide +kernel
theorem dX3_init_26 : decode cX3_init 26 = .ok (.aload_n 0, 1) := by decide +kernel
theorem dX3_init_27 : decode cX3_init 27 = .ok (.new 9, 3) := by decide +kernel
theorem dX3_init_30 : decode cX3_init 30 = .ok (.dup, 1) := by decide +kernel
theorem dX3_init_31 : decode cX3_init 31 = .ok (.invokespecial 11, 3) := by decide +kernel
theorem dX3_init_34 : decode cX3_init 34 = .ok (.putfield 21, 3) := by decide +kernel
theorem dX3_init_37 : decode cX3_init 37 = .ok (.aload_n 0, 1) := by decide +kernel
theorem dX3_init_38 : decode cX3_init 38 = .ok (.new 9, 3) := by decide +kernel
theorem dX3_init_41 : decode cX3_init 41 = .ok (.dup, 1) := by decide +kernel
theorem dX3_init_42 : decode cX3_init 42 = .ok (.invokespecial 11, 3) := by decide +kernel
theorem dX3_init_45 : decode cX3_init 45 = .ok (.putfield 24, 3) := by decide +kernel
theorem dX3_init_48 : decode cX3_init 48 = .ok (.return_, 1) := by decide +kernel
theorem dX3_clear_0 : decode cX3_clear 0 = .ok (.aload_n 0, 1) := by decide +kernel
theorem dX3_clear_1 : decode cX3_clear 1 = .ok (.iconst 0, 1) := by decide +kernel
theorem dX3_clear_2 : decode cX3_clear 2 = .ok (.putfield 27, 3) := by decide +kernel
theorem dX3_clear_5 : decode cX3_clear 5 = .ok (.aload_n 0, 1) := by decide +kernel
theorem dX3_clear_6 : decode cX3_clear 6 = .ok (.iconst 0, 1) := by decide +kernel
theorem dX3_clear_7 : decode cX3_clear 7 = .ok (.putfield 31, 3) := by decide +kernel
theorem dX3_clear_10 : decode cX3_clear 10 = .ok (.aload_n 0, 1) := by decide +kernel
theorem dX3_clear_11 : decode cX3_clear 11 = .ok (.iconst 0, 1) := by decide +kernel
theorem dX3_clear_12 : decode cX3_clear 12 = .ok (.putfield 34, 3) := by decide +kernel
theorem dX3_clear_15 : decode cX3_clear 15 = .ok (.aload_n 0, 1) := by decide +kernel
theorem dX3_clear_16 : decode cX3_clear 16 = .ok (.lconst 0, 1) := by decide +kernel
theorem dX3_clear_17 : decode cX3_clear 17 = .ok (.putfield 37, 3) := by decide +kernel
theorem dX3_clear_20 : decode cX3_clear 20 = .ok (.aload_n 0, 1) := by decide +kernel
theorem dX3_clear_21 : decode cX3_clear 21 = .ok (.lconst 0, 1) := by decide +kernel
theorem dX3_clear_22 : decode cX3_clear 22 = .ok (.putfield 41, 3) := by decide +kernel
theorem dX3_clear_25 : decode cX3_clear 25 = .ok (.return_, 1) := by decide +kernel
theorem dX3_enter_0 : decode cX3_enter 0 = .ok (.aload_n 0, 1) := by decide +kernel
theorem dX3_enter_1 : decode cX3_enter 1 = .ok (.getfield 12, 3) := by decide +kernel
theorem dX3_enter_4 : decode cX3_enter 4 = .ok (.iload_n 1, 1) := by decide +kernel
theorem dX3_enter_5 : decode cX3_enter 5 = .ok (.aload_n 2, 1) := by decide +kernel
theorem dX3_enter_6 : decode cX3_enter 6 = .ok (.invokevirtual 44, 3) := by decide +kernel
theorem dX3_enter_9 : decode cX3_enter 9 = .ok (.invokevirtual 50, 3) := by decide +kernel
theorem dX3_enter_12 : decode cX3_enter 12 = .ok (.aload_n 0, 1) := by decide +kernel
theorem dX3_enter_13 : decode cX3_enter 13 = .ok (.getfield 18, 3) := by decide +kernel
theorem dX3_enter_16 : decode cX3_enter 16 = .ok (.iload_n 1, 1) := by decide +kernel
theorem dX3_enter_17 : decode cX3_enter 17 = .ok (.aload_n 2, 1) := by decide +kernel
theorem dX3_enter_18 : decode cX3_enter 18 = .ok (.lload_n 3, 1) := by decide +kernel
theorem dX3_enter_19 : decode cX3_enter 19 = .ok (.invokevirtual 54, 3) := by decide +kernel
theorem dX3_enter_22 : decode cX3_enter 22 = .ok (.invokevirtual 50, 3) := by decide +kernel
theorem dX3_enter_25 : decode cX3_enter 25 = .ok (.aload_n 0, 1) := by decide +kernel
theorem dX3_enter_26 : decode cX3_enter 26 = .ok (.getfield 21, 3) := by decide +kernel
theorem dX3_enter_29 : decode cX3_enter 29 = .ok (.iload_n 1, 1) := by decide +kernel
theorem dX3_enter_30 : decode cX3_enter 30 = .ok (.aload_n 2, 1) := by decide +kernel
theorem dX3_enter_31 : decode cX3_enter 31 = .ok (.invokevirtual 58, 3) := by decide +kernel
theorem dX3_enter_34 : decode cX3_enter 34 = .ok (.invokevirtual 50, 3) := by decide +kernel
theorem dX3_enter_37 : decode cX3_enter 37 = .ok (.aload_n 0, 1) := by decide +kernel
theorem dX3_enter_38 : decode cX3_enter 38 = .ok (.getfield 24, 3) := by decide +kernel
theorem dX3_enter_41 : decode cX3_enter 41 = .ok (.iload_n 1, 1) := by decide +kernel
theorem dX3_enter_42 : decode cX3_enter 42 = .ok (.aload_n 2, 1) := by decide +kernel
theorem dX3_enter_43 : decode cX3_enter 43 = .ok (.invokevirtual 61, 3) := by decide +kernel
theorem dX3_enter_46 : decode cX3_enter 46 = .ok (.i2l, 1) := by decide +kernel
theorem dX3_enter_47 : decode cX3_enter 47 = .ok (.invokevirtual 50, 3) := by decide +kernel
theorem dX3_enter_50 : decode cX3_enter 50 = .ok (.aload_n 0, 1) := by decide +kernel
theorem dX3_enter_51 : decode cX3_enter 51 = .ok (.dup, 1) := by decide +kernel
theorem dX3_enter_52 : decode cX3_enter 52 = .ok (.getfield 27, 3) := by decide +kernel
theorem dX3_enter_55 : decode cX3_enter 55 = .ok (.iconst 1, 1) := by decide +kernel
theorem dX3_enter_56 : decode cX3_enter 56 = .ok (.iload_n 1, 1) := by decide +kernel
theorem dX3_enter_57 : decode cX3_enter 57 = .ok (.ishl, 1) := by decide +kernel
theorem dX3_enter_58 : decode cX3_enter 58 = .ok (.ior, 1) := by decide +kernel
theorem dX3_enter_59 : decode cX3_enter 59 = .ok (.putfield 27, 3) := by decide +kernel
theorem dX3_enter_62 : decode cX3_enter 62 = .ok (.return_, 1) := by decide +kernel
theorem dX3_isEmpty_0 : decode cX3_isEmpty 0 = .ok (.aload_n 0, 1) := by decide +kernel
theorem dX3_isEmpty_1 : decode cX3_isEmpty 1 = .ok (.getfield 27, 3) := by decide +kernel
theorem dX3_isEmpty_4 : decode cX3_isEmpty 4 = .ok (.ifCond .ne 7, 3) := by decide +kernel
theorem dX3_isEmpty_7 : decode cX3_isEmpty 7 = .ok (.iconst 1, 1) := by decide +kernel
theorem dX3_isEmpty_8 : decode cX3_isEmpty 8 = .ok (.goto 4, 3) := by decide +kernel
theorem dX3_isEmpty_11 : decode cX3_isEmpty 11 = .ok (.iconst 0, 1) := by decide +kernel
theorem dX3_isEmpty_12 : decode cX3_isEmpty 12 = .ok (.ireturn, 1) := by decide +kernel
theorem dX3_isMajority_0 : decode cX3_isMajority 0 = .ok (.iconst 2, 1) := by decide +kernel
theorem dX3_isMajority_1 : decode cX3_isMajority 1 = .ok (.aload_n 0, 1) := by decide +kernel
theorem dX3_isMajority_2 : decode cX3_isMajority 2 = .ok (.invokevirtual 65, 3) := by decide +kernel
theorem dX3_isMajority_5 : decode cX3_isMajority 5 = .ok (.imul, 1) := by decide +kernel
theorem dX3_isMajority_6 : decode cX3_isMajority 6 = .ok (.aload_n 0, 1) := by decide +kernel
theorem dX3_isMajority_7 : decode cX3_isMajority 7 = .ok (.getfield 27, 3) := by decide +kernel
theorem dX3_isMajority_10 : decode cX3_isMajority 10 = .ok (.invokestatic 68, 3) := by decide +kernel
theorem dX3_isMajority_13 : decode cX3_isMajority 13 = .ok (.if_icmp .le 7, 3) := by decide +kernel
theorem dX3_isMajority_16 : decode cX3_isMajority 16 = .ok (.iconst 1, 1) := by decide +kernel
theorem dX3_isMajority_17 : decode cX3_isMajority 17 = .ok (.goto 4, 3) := by decide +kernel
theorem dX3_isMajority_20 : decode cX3_isMajority 20 = .ok (.iconst 0, 1) := by decide +kernel
theorem dX3_isMajority_21 : decode cX3_isMajority 21 = .ok (.ireturn, 1) := by decide +kernel
theorem dX3_agreed_0 : decode cX3_agreed 0 = .ok (.aload_n 0, 1) := by decide +kernel
theorem dX3_agreed_1 : decode cX3_agreed 1 = .ok (.getfield 31, 3) := by decide +kernel
theorem dX3_agreed_4 : decode cX3_agreed 4 = .ok (.invokestatic 68, 3) := by decide +kernel
theorem dX3_agreed_7 : decode cX3_agreed 7 = .ok (.ireturn, 1) := by decide +kernel
theorem dX3_agreeingBits_0 : decode cX3_agreeingBits 0 = .ok (.aload_n 0, 1) := by decide +kernel
theorem dX3_agreeingBits_1 : decode cX3_agreeingBits 1 = .ok (.getfield 31, 3) := by decide +kernel
theorem dX3_agreeingBits_4 : decode cX3_agreeingBits 4 = .ok (.ireturn, 1) := by decide +kernel
theorem dX3_survivorBits_0 : decode cX3_survivorBits 0 = .ok (.aload_n 0, 1) := by decide +kernel
theorem dX3_survivorBits_1 : decode cX3_survivorBits 1 = .ok (.getfield 34, 3) := by decide +kernel
theorem dX3_survivorBits_4 : decode cX3_survivorBits 4 = .ok (.ireturn, 1) := by decide +kernel
theorem dX3_lowEnd_0 : decode cX3_lowEnd 0 = .ok (.aload_n 0, 1) := by decide +kernel
theorem dX3_lowEnd_1 : decode cX3_lowEnd 1 = .ok (.getfield 37, 3) := by decide +kernel
theorem dX3_lowEnd_4 : decode cX3_lowEnd 4 = .ok (.lreturn, 1) := by decide +kernel
theorem dX3_highEnd_0 : decode cX3_highEnd 0 = .ok (.aload_n 0, 1) := by decide +kernel
theorem dX3_highEnd_1 : decode cX3_highEnd 1 = .ok (.getfield 41, 3) := by decide +kernel
theorem dX3_highEnd_4 : decode cX3_highEnd 4 = .ok (.lreturn, 1) := by decide +kernel
theorem dX3_intersect_0 : decode cX3_intersect 0 = .ok (.iconst 0, 1) := by decide +kernel
theorem dX3_intersect_1 : decode cX3_intersect 1 = .ok (.istore_n 1, 1) := by decide +kernel
theorem dX3_intersect_2 : decode cX3_intersect 2 = .ok (.iload_n 1, 1) := by decide +kernel
theorem dX3_intersect_3 : decode cX3_intersect 3 = .ok (.bipush 8, 2) := by decide +kernel
theorem dX3_intersect_5 : decode cX3_intersect 5 = .ok (.if_icmp .ge 41, 3) := by decide +kernel
theorem dX3_intersect_8 : decode cX3_intersect 8 = .ok (.aload_n 0, 1) := by decide +kernel
theorem dX3_intersect_9 : decode cX3_intersect 9 = .ok (.getfield 27, 3) := by decide +kernel
theorem dX3_intersect_12 : decode cX3_intersect 12 = .ok (.iload_n 1, 1) := by decide +kernel
theorem dX3_intersect_13 : decode cX3_intersect 13 = .ok (.invokestatic 74, 3) := by decide +kernel
theorem dX3_intersect_16 : decode cX3_intersect 16 = .ok (.ifCond .eq 24, 3) := by decide +kernel
theorem dX3_intersect_19 : decode cX3_intersect 19 = .ok (.aload_n 0, 1) := by decide +kernel
theorem dX3_intersect_20 : decode cX3_intersect 20 = .ok (.aload_n 0, 1) := by decide +kernel
theorem dX3_intersect_21 : decode cX3_intersect 21 = .ok (.getfield 12, 3) := by decide +kernel
theorem dX3_intersect_24 : decode cX3_intersect 24 = .ok (.iload_n 1, 1) := by decide +kernel
theorem dX3_intersect_25 : decode cX3_intersect 25 = .ok (.invokevirtual 78, 3) := by decide +kernel
theorem dX3_intersect_28 : decode cX3_intersect 28 = .ok (.aload_n 0, 1) := by decide +kernel
theorem dX3_intersect_29 : decode cX3_intersect 29 = .ok (.getfield 18, 3) := by decide +kernel
theorem dX3_intersect_32 : decode cX3_intersect 32 = .ok (.iload_n 1, 1) := by decide +kernel
theorem dX3_intersect_33 : decode cX3_intersect 33 = .ok (.invokevirtual 78, 3) := by decide +kernel
theorem dX3_intersect_36 : decode cX3_intersect 36 = .ok (.lsub, 1) := by decide +kernel
theorem dX3_intersect_37 : decode cX3_intersect 37 = .ok (.invokevirtual 82, 3) := by decide +kernel
theorem dX3_intersect_40 : decode cX3_intersect 40 = .ok (.iinc 1 1, 3) := by decide +kernel
theorem dX3_intersect_43 : decode cX3_intersect 43 = .ok (.goto (-41), 3) := by decide +kernel
theorem dX3_intersect_46 : decode cX3_intersect 46 = .ok (.aload_n 0, 1) := by decide +kernel
theorem dX3_intersect_47 : decode cX3_intersect 47 = .ok (.aload_n 0, 1) := by decide +kernel
theorem dX3_intersect_48 : decode cX3_intersect 48 = .ok (.invokevirtual 86, 3) := by decide +kernel
theorem dX3_intersect_51 : decode cX3_intersect 51 = .ok (.putfield 41, 3) := by decide +kernel
theorem dX3_intersect_54 : decode cX3_intersect 54 = .ok (.return_, 1) := by decide +kernel
theorem dX3_tryLowEnd_0 : decode cX3_tryLowEnd 0 = .ok (.aload_n 0, 1) := by decide +kernel
theorem dX3_tryLowEnd_1 : decode cX3_tryLowEnd 1 = .ok (.lload_n 1, 1) := by decide +kernel
theorem dX3_tryLowEnd_2 : decode cX3_tryLowEnd 2 = .ok (.invokevirtual 89, 3) := by decide +kernel
theorem dX3_tryLowEnd_5 : decode cX3_tryLowEnd 5 = .ok (.istore_n 3, 1) := by decide +kernel
theorem dX3_tryLowEnd_6 : decode cX3_tryLowEnd 6 = .ok (.iload_n 3, 1) := by decide +kernel
theorem dX3_tryLowEnd_7 : decode cX3_tryLowEnd 7 = .ok (.invokestatic 68, 3) := by decide +kernel
theorem dX3_tryLowEnd_10 : decode cX3_tryLowEnd 10 = .ok (.aload_n 0, 1) := by decide +kernel
theorem dX3_tryLowEnd_11 : decode cX3_tryLowEnd 11 = .ok (.getfield 31, 3) := by decide +kernel
theorem dX3_tryLowEnd_14 : decode cX3_tryLowEnd 14 = .ok (.invokestatic 68, 3) := by decide +kernel
theorem dX3_tryLowEnd_17 : decode cX3_tryLowEnd 17 = .ok (.isub, 1) := by decide +kernel
theorem dX3_tryLowEnd_18 : decode cX3_tryLowEnd 18 = .ok (.istore 4, 2) := by decide +kernel
theorem dX3_tryLowEnd_20 : decode cX3_tryLowEnd 20 = .ok (.iload 4, 2) := by decide +kernel
theorem dX3_tryLowEnd_22 : decode cX3_tryLowEnd 22 = .ok (.ifCond .gt 17, 3) := by decide +kernel
theorem dX3_tryLowEnd_25 : decode cX3_tryLowEnd 25 = .ok (.iload 4, 2) := by decide +kernel
theorem dX3_tryLowEnd_27 : decode cX3_tryLowEnd 27 = .ok (.ifCond .ne 22, 3) := by decide +kernel
theorem dX3_tryLowEnd_30 : decode cX3_tryLowEnd 30 = .ok (.lload_n 1, 1) := by decide +kernel
theorem dX3_tryLowEnd_31 : decode cX3_tryLowEnd 31 = .ok (.aload_n 0, 1) := by decide +kernel
theorem dX3_tryLowEnd_32 : decode cX3_tryLowEnd 32 = .ok (.getfield 37, 3) := by decide +kernel
theorem dX3_tryLowEnd_35 : decode cX3_tryLowEnd 35 = .ok (.lcmp, 1) := by decide +kernel
theorem dX3_tryLowEnd_36 : decode cX3_tryLowEnd 36 = .ok (.ifCond .ge 13, 3) := by decide +kernel
theorem dX3_tryLowEnd_39 : decode cX3_tryLowEnd 39 = .ok (.aload_n 0, 1) := by decide +kernel
theorem dX3_tryLowEnd_40 : decode cX3_tryLowEnd 40 = .ok (.iload_n 3, 1) := by decide +kernel
theorem dX3_tryLowEnd_41 : decode cX3_tryLowEnd 41 = .ok (.putfield 31, 3) := by decide +kernel
theorem dX3_tryLowEnd_44 : decode cX3_tryLowEnd 44 = .ok (.aload_n 0, 1) := by decide +kernel
theorem dX3_tryLowEnd_45 : decode cX3_tryLowEnd 45 = .ok (.lload_n 1, 1) := by decide +kernel
theorem dX3_tryLowEnd_46 : decode cX3_tryLowEnd 46 = .ok (.putfield 37, 3) := by decide +kernel
theorem dX3_tryLowEnd_49 : decode cX3_tryLowEnd 49 = .ok (.return_, 1) := by decide +kernel
theorem dX3_intervalsWith_0 : decode cX3_intervalsWith 0 = .ok (.iconst 0, 1) := by decide +kernel
theorem dX3_intervalsWith_1 : decode cX3_intervalsWith 1 = .ok (.istore_n 3, 1) := by decide +kernel
theorem dX3_intervalsWith_2 : decode cX3_intervalsWith 2 = .ok (.iconst 0, 1) := by decide +kernel
theorem dX3_intervalsWith_3 : decode cX3_intervalsWith 3 = .ok (.istore 4, 2) := by decide +kernel
theorem dX3_intervalsWith_5 : decode cX3_intervalsWith 5 = .ok (.iload 4, 2) := by decide +kernel
theorem dX3_intervalsWith_7 : decode cX3_intervalsWith 7 = .ok (.bipush 8, 2) := by decide +kernel
theorem dX3_intervalsWith_9 : decode cX3_intervalsWith 9 = .ok (.if_icmp .ge 55, 3) := by decide +kernel
theorem dX3_intervalsWith_12 : decode cX3_intervalsWith 12 = .ok (.aload_n 0, 1) := by decide +kernel
theorem dX3_intervalsWith_13 : decode cX3_intervalsWith 13 = .ok (.getfield 27, 3) := by decide +kernel
theorem dX3_intervalsWith_16 : decode cX3_intervalsWith 16 = .ok (.iload 4, 2) := by decide +kernel
theorem dX3_intervalsWith_18 : decode cX3_intervalsWith 18 = .ok (.invokestatic 74, 3) := by decide +kernel
theorem dX3_intervalsWith_21 : decode cX3_intervalsWith 21 = .ok (.ifCond .eq 37, 3) := by decide +kernel
theorem dX3_intervalsWith_24 : decode cX3_intervalsWith 24 = .ok (.lload_n 1, 1) := by decide +kernel
theorem dX3_intervalsWith_25 : decode cX3_intervalsWith 25 = .ok (.aload_n 0, 1) := by decide +kernel
theorem dX3_intervalsWith_26 : decode cX3_intervalsWith 26 = .ok (.getfield 12, 3) := by decide +kernel
theorem dX3_intervalsWith_29 : decode cX3_intervalsWith 29 = .ok (.iload 4, 2) := by decide +kernel
theorem dX3_intervalsWith_31 : decode cX3_intervalsWith 31 = .ok (.invokevirtual 78, 3) := by decide +kernel
theorem dX3_intervalsWith_34 : decode cX3_intervalsWith 34 = .ok (.lsub, 1) := by decide +kernel
theorem dX3_intervalsWith_35 : decode cX3_intervalsWith 35 = .ok (.invokestatic 93, 3) := by decide +kernel
theorem dX3_intervalsWith_38 : decode cX3_intervalsWith 38 = .ok (.aload_n 0, 1) := by decide +kernel
theorem dX3_intervalsWith_39 : decode cX3_intervalsWith 39 = .ok (.getfield 18, 3) := by decide +kernel
theorem dX3_intervalsWith_42 : decode cX3_intervalsWith 42 = .ok (.iload 4, 2) := by decide +kernel
theorem dX3_intervalsWith_44 : decode cX3_intervalsWith 44 = .ok (.invokevirtual 78, 3) := by decide +kernel
theorem dX3_intervalsWith_47 : decode cX3_intervalsWith 47 = .ok (.lcmp, 1) := by decide +kernel
theorem dX3_intervalsWith_48 : decode cX3_intervalsWith 48 = .ok (.ifCond .gt 10, 3) := by decide +kernel
theorem dX3_intervalsWith_51 : decode cX3_intervalsWith 51 = .ok (.iload_n 3, 1) := by decide +kernel
theorem dX3_intervalsWith_52 : decode cX3_intervalsWith 52 = .ok (.iconst 1, 1) := by decide +kernel
theorem dX3_intervalsWith_53 : decode cX3_intervalsWith 53 = .ok (.iload 4, 2) := by decide +kernel
theorem dX3_intervalsWith_55 : decode cX3_intervalsWith 55 = .ok (.ishl, 1) := by decide +kernel
theorem dX3_intervalsWith_56 : decode cX3_intervalsWith 56 = .ok (.ior, 1) := by decide +kernel
theorem dX3_intervalsWith_57 : decode cX3_intervalsWith 57 = .ok (.istore_n 3, 1) := by decide +kernel
theorem dX3_intervalsWith_58 : decode cX3_intervalsWith 58 = .ok (.iinc 4 1, 3) := by decide +kernel
theorem dX3_intervalsWith_61 : decode cX3_intervalsWith 61 = .ok (.goto (-56), 3) := by decide +kernel
theorem dX3_intervalsWith_64 : decode cX3_intervalsWith 64 = .ok (.iload_n 3, 1) := by decide +kernel
theorem dX3_intervalsWith_65 : decode cX3_intervalsWith 65 = .ok (.ireturn, 1) := by decide +kernel
theorem dX3_leastUpperEnd_0 : decode cX3_leastUpperEnd 0 = .ok (.lconst 0, 1) := by decide +kernel
theorem dX3_leastUpperEnd_1 : decode cX3_leastUpperEnd 1 = .ok (.lstore_n 1, 1) := by decide +kernel
theorem dX3_leastUpperEnd_2 : decode cX3_leastUpperEnd 2 = .ok (.iconst 0, 1) := by decide +kernel
theorem dX3_leastUpperEnd_3 : decode cX3_leastUpperEnd 3 = .ok (.istore_n 3, 1) := by decide +kernel
theorem dX3_leastUpperEnd_4 : decode cX3_leastUpperEnd 4 = .ok (.iconst 0, 1) := by decide +kernel
theorem dX3_leastUpperEnd_5 : decode cX3_leastUpperEnd 5 = .ok (.istore 4, 2) := by decide +kernel
theorem dX3_leastUpperEnd_7 : decode cX3_leastUpperEnd 7 = .ok (.iload 4, 2) := by decide +kernel
theorem dX3_leastUpperEnd_9 : decode cX3_leastUpperEnd 9 = .ok (.bipush 8, 2) := by decide +kernel
theorem dX3_leastUpperEnd_11 : decode cX3_leastUpperEnd 11 = .ok (.if_icmp .ge 58, 3) := by decide +kernel
theorem dX3_leastUpperEnd_14 : decode cX3_leastUpperEnd 14 = .ok (.aload_n 0, 1) := by decide +kernel
theorem dX3_leastUpperEnd_15 : decode cX3_leastUpperEnd 15 = .ok (.getfield 12, 3) := by decide +kernel
theorem dX3_leastUpperEnd_18 : decode cX3_leastUpperEnd 18 = .ok (.iload 4, 2) := by decide +kernel
theorem dX3_leastUpperEnd_20 : decode cX3_leastUpperEnd 20 = .ok (.invokevirtual 78, 3) := by decide +kernel
theorem dX3_leastUpperEnd_23 : decode cX3_leastUpperEnd 23 = .ok (.aload_n 0, 1) := by decide +kernel
theorem dX3_leastUpperEnd_24 : decode cX3_leastUpperEnd 24 = .ok (.getfield 18, 3) := by decide +kernel
theorem dX3_leastUpperEnd_27 : decode cX3_leastUpperEnd 27 = .ok (.iload 4, 2) := by decide +kernel
theorem dX3_leastUpperEnd_29 : decode cX3_leastUpperEnd 29 = .ok (.invokevirtual 78, 3) := by decide +kernel
theorem dX3_leastUpperEnd_32 : decode cX3_leastUpperEnd 32 = .ok (.ladd, 1) := by decide +kernel
theorem dX3_leastUpperEnd_33 : decode cX3_leastUpperEnd 33 = .ok (.lstore 5, 2) := by decide +kernel
theorem dX3_leastUpperEnd_35 : decode cX3_leastUpperEnd 35 = .ok (.aload_n 0, 1) := by decide +kernel
theorem dX3_leastUpperEnd_36 : decode cX3_leastUpperEnd 36 = .ok (.getfield 31, 3) := by decide +kernel
theorem dX3_leastUpperEnd_39 : decode cX3_leastUpperEnd 39 = .ok (.iload 4, 2) := by decide +kernel
theorem dX3_leastUpperEnd_41 : decode cX3_leastUpperEnd 41 = .ok (.invokestatic 74, 3) := by decide +kernel
theorem dX3_leastUpperEnd_44 : decode cX3_leastUpperEnd 44 = .ok (.ifCond .eq 19, 3) := by decide +kernel
theorem dX3_leastUpperEnd_47 : decode cX3_leastUpperEnd 47 = .ok (.iload_n 3, 1) := by decide +kernel
theorem dX3_leastUpperEnd_48 : decode cX3_leastUpperEnd 48 = .ok (.ifCond .eq 10, 3) := by decide +kernel
theorem dX3_leastUpperEnd_51 : decode cX3_leastUpperEnd 51 = .ok (.lload 5, 2) := by decide +kernel
theorem dX3_leastUpperEnd_53 : decode cX3_leastUpperEnd 53 = .ok (.lload_n 1, 1) := by decide +kernel
theorem dX3_leastUpperEnd_54 : decode cX3_leastUpperEnd 54 = .ok (.lcmp, 1) := by decide +kernel
theorem dX3_leastUpperEnd_55 : decode cX3_leastUpperEnd 55 = .ok (.ifCond .ge 8, 3) := by decide +kernel
theorem dX3_leastUpperEnd_58 : decode cX3_leastUpperEnd 58 = .ok (.lload 5, 2) := by decide +kernel
theorem dX3_leastUpperEnd_60 : decode cX3_leastUpperEnd 60 = .ok (.lstore_n 1, 1) := by decide +kernel
theorem dX3_leastUpperEnd_61 : decode cX3_leastUpperEnd 61 = .ok (.iconst 1, 1) := by decide +kernel
theorem dX3_leastUpperEnd_62 : decode cX3_leastUpperEnd 62 = .ok (.istore_n 3, 1) := by decide +kernel
theorem dX3_leastUpperEnd_63 : decode cX3_leastUpperEnd 63 = .ok (.iinc 4 1, 3) := by decide +kernel
theorem dX3_leastUpperEnd_66 : decode cX3_leastUpperEnd 66 = .ok (.goto (-59), 3) := by decide +kernel
theorem dX3_leastUpperEnd_69 : decode cX3_leastUpperEnd 69 = .ok (.lload_n 1, 1) := by decide +kernel
theorem dX3_leastUpperEnd_70 : decode cX3_leastUpperEnd 70 = .ok (.lreturn, 1) := by decide +kernel
theorem dX3_cluster_0 : decode cX3_cluster 0 = .ok (.aload_n 0, 1) := by decide +kernel
theorem dX3_cluster_1 : decode cX3_cluster 1 = .ok (.aload_n 0, 1) := by decide +kernel
theorem dX3_cluster_2 : decode cX3_cluster 2 = .ok (.getfield 31, 3) := by decide +kernel
theorem dX3_cluster_5 : decode cX3_cluster 5 = .ok (.putfield 34, 3) := by decide +kernel
theorem dX3_cluster_8 : decode cX3_cluster 8 = .ok (.iconst 0, 1) := by decide +kernel
theorem dX3_cluster_9 : decode cX3_cluster 9 = .ok (.istore_n 1, 1) := by decide +kernel
theorem dX3_cluster_10 : decode cX3_cluster 10 = .ok (.iload_n 1, 1) := by decide +kernel
theorem dX3_cluster_11 : decode cX3_cluster 11 = .ok (.bipush 8, 2) := by decide +kernel
theorem dX3_cluster_13 : decode cX3_cluster 13 = .ok (.if_icmp .ge 54, 3) := by decide +kernel
theorem dX3_cluster_16 : decode cX3_cluster 16 = .ok (.aload_n 0, 1) := by decide +kernel
theorem dX3_cluster_17 : decode cX3_cluster 17 = .ok (.getfield 34, 3) := by decide +kernel
theorem dX3_cluster_20 : decode cX3_cluster 20 = .ok (.invokestatic 68, 3) := by decide +kernel
theorem dX3_cluster_23 : decode cX3_cluster 23 = .ok (.iconst 3, 1) := by decide +kernel
theorem dX3_cluster_24 : decode cX3_cluster 24 = .ok (.if_icmp .gt 4, 3) := by decide +kernel
theorem dX3_cluster_27 : decode cX3_cluster 27 = .ok (.return_, 1) := by decide +kernel
theorem dX3_cluster_28 : decode cX3_cluster 28 = .ok (.aload_n 0, 1) := by decide +kernel
theorem dX3_cluster_29 : decode cX3_cluster 29 = .ok (.invokevirtual 98, 3) := by decide +kernel
theorem dX3_cluster_32 : decode cX3_cluster 32 = .ok (.istore_n 2, 1) := by decide +kernel
theorem dX3_cluster_33 : decode cX3_cluster 33 = .ok (.aload_n 0, 1) := by decide +kernel
theorem dX3_cluster_34 : decode cX3_cluster 34 = .ok (.iload_n 2, 1) := by decide +kernel
theorem dX3_cluster_35 : decode cX3_cluster 35 = .ok (.invokevirtual 101, 3) := by decide +kernel
theorem dX3_cluster_38 : decode cX3_cluster 38 = .ok (.aload_n 0, 1) := by decide +kernel
theorem dX3_cluster_39 : decode cX3_cluster 39 = .ok (.invokevirtual 104, 3) := by decide +kernel
theorem dX3_cluster_42 : decode cX3_cluster 42 = .ok (.lcmp, 1) := by decide +kernel
theorem dX3_cluster_43 : decode cX3_cluster 43 = .ok (.ifCond .gt 4, 3) := by decide +kernel
theorem dX3_cluster_46 : decode cX3_cluster 46 = .ok (.return_, 1) := by decide +kernel
theorem dX3_cluster_47 : decode cX3_cluster 47 = .ok (.aload_n 0, 1) := by decide +kernel
theorem dX3_cluster_48 : decode cX3_cluster 48 = .ok (.dup, 1) := by decide +kernel
theorem dX3_cluster_49 : decode cX3_cluster 49 = .ok (.getfield 34, 3) := by decide +kernel
theorem dX3_cluster_52 : decode cX3_cluster 52 = .ok (.iconst 1, 1) := by decide +kernel
theorem dX3_cluster_53 : decode cX3_cluster 53 = .ok (.iload_n 2, 1) := by decide +kernel
theorem dX3_cluster_54 : decode cX3_cluster 54 = .ok (.ishl, 1) := by decide +kernel
theorem dX3_cluster_55 : decode cX3_cluster 55 = .ok (.iconst (-1), 1) := by decide +kernel
theorem dX3_cluster_56 : decode cX3_cluster 56 = .ok (.ixor, 1) := by decide +kernel
theorem dX3_cluster_57 : decode cX3_cluster 57 = .ok (.iand, 1) := by decide +kernel
theorem dX3_cluster_58 : decode cX3_cluster 58 = .ok (.putfield 34, 3) := by decide +kernel
theorem dX3_cluster_61 : decode cX3_cluster 61 = .ok (.iinc 1 1, 3) := by decide +kernel
theorem dX3_cluster_64 : decode cX3_cluster 64 = .ok (.goto (-54), 3) := by decide +kernel
theorem dX3_cluster_67 : decode cX3_cluster 67 = .ok (.return_, 1) := by decide +kernel
theorem dX3_widestSpread_0 : decode cX3_widestSpread 0 = .ok (.iconst (-1), 1) := by decide +kernel
theorem dX3_widestSpread_1 : decode cX3_widestSpread 1 = .ok (.istore_n 1, 1) := by decide +kernel
theorem dX3_widestSpread_2 : decode cX3_widestSpread 2 = .ok (.iconst 0, 1) := by decide +kernel
theorem dX3_widestSpread_3 : decode cX3_widestSpread 3 = .ok (.istore_n 2, 1) := by decide +kernel
theorem dX3_widestSpread_4 : decode cX3_widestSpread 4 = .ok (.iload_n 2, 1) := by decide +kernel
theorem dX3_widestSpread_5 : decode cX3_widestSpread 5 = .ok (.bipush 8, 2) := by decide +kernel
theorem dX3_widestSpread_7 : decode cX3_widestSpread 7 = .ok (.if_icmp .ge 41, 3) := by decide +kernel
theorem dX3_widestSpread_10 : decode cX3_widestSpread 10 = .ok (.aload_n 0, 1) := by decide +kernel
theorem dX3_widestSpread_11 : decode cX3_widestSpread 11 = .ok (.getfield 34, 3) := by decide +kernel
theorem dX3_widestSpread_14 : decode cX3_widestSpread 14 = .ok (.iload_n 2, 1) := by decide +kernel
theorem dX3_widestSpread_15 : decode cX3_widestSpread 15 = .ok (.invokestatic 74, 3) := by decide +kernel
theorem dX3_widestSpread_18 : decode cX3_widestSpread 18 = .ok (.ifCond .eq 24, 3) := by decide +kernel
theorem dX3_widestSpread_21 : decode cX3_widestSpread 21 = .ok (.iload_n 1, 1) := by decide +kernel
theorem dX3_widestSpread_22 : decode cX3_widestSpread 22 = .ok (.iconst (-1), 1) := by decide +kernel
theorem dX3_widestSpread_23 : decode cX3_widestSpread 23 = .ok (.if_icmp .eq 17, 3) := by decide +kernel
theorem dX3_widestSpread_26 : decode cX3_widestSpread 26 = .ok (.aload_n 0, 1) := by decide +kernel
theorem dX3_widestSpread_27 : decode cX3_widestSpread 27 = .ok (.iload_n 2, 1) := by decide +kernel
theorem dX3_widestSpread_28 : decode cX3_widestSpread 28 = .ok (.invokevirtual 101, 3) := by decide +kernel
theorem dX3_widestSpread_31 : decode cX3_widestSpread 31 = .ok (.aload_n 0, 1) := by decide +kernel
theorem dX3_widestSpread_32 : decode cX3_widestSpread 32 = .ok (.iload_n 1, 1) := by decide +kernel
theorem dX3_widestSpread_33 : decode cX3_widestSpread 33 = .ok (.invokevirtual 101, 3) := by decide +kernel
theorem dX3_widestSpread_36 : decode cX3_widestSpread 36 = .ok (.lcmp, 1) := by decide +kernel
theorem dX3_widestSpread_37 : decode cX3_widestSpread 37 = .ok (.ifCond .lt 5, 3) := by decide +kernel
theorem dX3_widestSpread_40 : decode cX3_widestSpread 40 = .ok (.iload_n 2, 1) := by decide +kernel
theorem dX3_widestSpread_41 : decode cX3_widestSpread 41 = .ok (.istore_n 1, 1) := by decide +kernel
theorem dX3_widestSpread_42 : decode cX3_widestSpread 42 = .ok (.iinc 2 1, 3) := by decide +kernel
theorem dX3_widestSpread_45 : decode cX3_widestSpread 45 = .ok (.goto (-41), 3) := by decide +kernel
theorem dX3_widestSpread_48 : decode cX3_widestSpread 48 = .ok (.iload_n 1, 1) := by decide +kernel
theorem dX3_widestSpread_49 : decode cX3_widestSpread 49 = .ok (.ireturn, 1) := by decide +kernel
theorem dX3_spread_0 : decode cX3_spread 0 = .ok (.aload_n 0, 1) := by decide +kernel
theorem dX3_spread_1 : decode cX3_spread 1 = .ok (.getfield 34, 3) := by decide +kernel
theorem dX3_spread_4 : decode cX3_spread 4 = .ok (.invokestatic 68, 3) := by decide +kernel
theorem dX3_spread_7 : decode cX3_spread 7 = .ok (.iconst 1, 1) := by decide +kernel
theorem dX3_spread_8 : decode cX3_spread 8 = .ok (.isub, 1) := by decide +kernel
theorem dX3_spread_9 : decode cX3_spread 9 = .ok (.istore_n 2, 1) := by decide +kernel
theorem dX3_spread_10 : decode cX3_spread 10 = .ok (.iload_n 2, 1) := by decide +kernel
theorem dX3_spread_11 : decode cX3_spread 11 = .ok (.iconst 1, 1) := by decide +kernel
theorem dX3_spread_12 : decode cX3_spread 12 = .ok (.if_icmp .ge 5, 3) := by decide +kernel
theorem dX3_spread_15 : decode cX3_spread 15 = .ok (.lconst 0, 1) := by decide +kernel
theorem dX3_spread_16 : decode cX3_spread 16 = .ok (.lreturn, 1) := by decide +kernel
theorem dX3_spread_17 : decode cX3_spread 17 = .ok (.lconst 0, 1) := by decide +kernel
theorem dX3_spread_18 : decode cX3_spread 18 = .ok (.lstore_n 3, 1) := by decide +kernel
theorem dX3_spread_19 : decode cX3_spread 19 = .ok (.iconst 0, 1) := by decide +kernel
theorem dX3_spread_20 : decode cX3_spread 20 = .ok (.istore 5, 2) := by decide +kernel
theorem dX3_spread_22 : decode cX3_spread 22 = .ok (.iload 5, 2) := by decide +kernel
theorem dX3_spread_24 : decode cX3_spread 24 = .ok (.bipush 8, 2) := by decide +kernel
theorem dX3_spread_26 : decode cX3_spread 26 = .ok (.if_icmp .ge 45, 3) := by decide +kernel
theorem dX3_spread_29 : decode cX3_spread 29 = .ok (.aload_n 0, 1) := by decide +kernel
theorem dX3_spread_30 : decode cX3_spread 30 = .ok (.getfield 34, 3) := by decide +kernel
theorem dX3_spread_33 : decode cX3_spread 33 = .ok (.iload 5, 2) := by decide +kernel
theorem dX3_spread_35 : decode cX3_spread 35 = .ok (.invokestatic 74, 3) := by decide +kernel
theorem dX3_spread_38 : decode cX3_spread 38 = .ok (.ifCond .eq 27, 3) := by decide +kernel
theorem dX3_spread_41 : decode cX3_spread 41 = .ok (.lload_n 3, 1) := by decide +kernel
theorem dX3_spread_42 : decode cX3_spread 42 = .ok (.aload_n 0, 1) := by decide +kernel
theorem dX3_spread_43 : decode cX3_spread 43 = .ok (.getfield 12, 3) := by decide +kernel
theorem dX3_spread_46 : decode cX3_spread 46 = .ok (.iload 5, 2) := by decide +kernel
theorem dX3_spread_48 : decode cX3_spread 48 = .ok (.invokevirtual 78, 3) := by decide +kernel
theorem dX3_spread_51 : decode cX3_spread 51 = .ok (.aload_n 0, 1) := by decide +kernel
theorem dX3_spread_52 : decode cX3_spread 52 = .ok (.getfield 12, 3) := by decide +kernel
theorem dX3_spread_55 : decode cX3_spread 55 = .ok (.iload_n 1, 1) := by decide +kernel
theorem dX3_spread_56 : decode cX3_spread 56 = .ok (.invokevirtual 78, 3) := by decide +kernel
theorem dX3_spread_59 : decode cX3_spread 59 = .ok (.lsub, 1) := by decide +kernel
theorem dX3_spread_60 : decode cX3_spread 60 = .ok (.invokestatic 93, 3) := by decide +kernel
theorem dX3_spread_63 : decode cX3_spread 63 = .ok (.ladd, 1) := by decide +kernel
theorem dX3_spread_64 : decode cX3_spread 64 = .ok (.lstore_n 3, 1) := by decide +kernel
theorem dX3_spread_65 : decode cX3_spread 65 = .ok (.iinc 5 1, 3) := by decide +kernel
theorem dX3_spread_68 : decode cX3_spread 68 = .ok (.goto (-46), 3) := by decide +kernel
theorem dX3_spread_71 : decode cX3_spread 71 = .ok (.lload_n 3, 1) := by decide +kernel
theorem dX3_spread_72 : decode cX3_spread 72 = .ok (.iload_n 2, 1) := by decide +kernel
theorem dX3_spread_73 : decode cX3_spread 73 = .ok (.i2l, 1) := by decide +kernel
theorem dX3_spread_74 : decode cX3_spread 74 = .ok (.ldiv, 1) := by decide +kernel
theorem dX3_spread_75 : decode cX3_spread 75 = .ok (.lreturn, 1) := by decide +kernel
theorem dX3_leastJitter_0 : decode cX3_leastJitter 0 = .ok (.lconst 0, 1) := by decide +kernel
theorem dX3_leastJitter_1 : decode cX3_leastJitter 1 = .ok (.lstore_n 1, 1) := by decide +kernel
theorem dX3_leastJitter_2 : decode cX3_leastJitter 2 = .ok (.iconst 0, 1) := by decide +kernel
theorem dX3_leastJitter_3 : decode cX3_leastJitter 3 = .ok (.istore_n 3, 1) := by decide +kernel
theorem dX3_leastJitter_4 : decode cX3_leastJitter 4 = .ok (.iconst 0, 1) := by decide +kernel
theorem dX3_leastJitter_5 : decode cX3_leastJitter 5 = .ok (.istore 4, 2) := by decide +kernel
theorem dX3_leastJitter_7 : decode cX3_leastJitter 7 = .ok (.iload 4, 2) := by decide +kernel
theorem dX3_leastJitter_9 : decode cX3_leastJitter 9 = .ok (.bipush 8, 2) := by decide +kernel
theorem dX3_leastJitter_11 : decode cX3_leastJitter 11 = .ok (.if_icmp .ge 51, 3) := by decide +kernel
theorem dX3_leastJitter_14 : decode cX3_leastJitter 14 = .ok (.aload_n 0, 1) := by decide +kernel
theorem dX3_leastJitter_15 : decode cX3_leastJitter 15 = .ok (.getfield 34, 3) := by decide +kernel
theorem dX3_leastJitter_18 : decode cX3_leastJitter 18 = .ok (.iload 4, 2) := by decide +kernel
theorem dX3_leastJitter_20 : decode cX3_leastJitter 20 = .ok (.invokestatic 74, 3) := by decide +kernel
theorem dX3_leastJitter_23 : decode cX3_leastJitter 23 = .ok (.ifCond .eq 33, 3) := by decide +kernel
theorem dX3_leastJitter_26 : decode cX3_leastJitter 26 = .ok (.iload_n 3, 1) := by decide +kernel
theorem dX3_leastJitter_27 : decode cX3_leastJitter 27 = .ok (.ifCond .eq 17, 3) := by decide +kernel
theorem dX3_leastJitter_30 : decode cX3_leastJitter 30 = .ok (.aload_n 0, 1) := by decide +kernel
theorem dX3_leastJitter_31 : decode cX3_leastJitter 31 = .ok (.getfield 21, 3) := by decide +kernel
theorem dX3_leastJitter_34 : decode cX3_leastJitter 34 = .ok (.iload 4, 2) := by decide +kernel
theorem dX3_leastJitter_36 : decode cX3_leastJitter 36 = .ok (.invokevirtual 78, 3) := by decide +kernel
theorem dX3_leastJitter_39 : decode cX3_leastJitter 39 = .ok (.lload_n 1, 1) := by decide +kernel
theorem dX3_leastJitter_40 : decode cX3_leastJitter 40 = .ok (.lcmp, 1) := by decide +kernel
theorem dX3_leastJitter_41 : decode cX3_leastJitter 41 = .ok (.ifCond .ge 15, 3) := by decide +kernel
theorem dX3_leastJitter_44 : decode cX3_leastJitter 44 = .ok (.aload_n 0, 1) := by decide +kernel
theorem dX3_leastJitter_45 : decode cX3_leastJitter 45 = .ok (.getfield 21, 3) := by decide +kernel
theorem dX3_leastJitter_48 : decode cX3_leastJitter 48 = .ok (.iload 4, 2) := by decide +kernel
theorem dX3_leastJitter_50 : decode cX3_leastJitter 50 = .ok (.invokevirtual 78, 3) := by decide +kernel
theorem dX3_leastJitter_53 : decode cX3_leastJitter 53 = .ok (.lstore_n 1, 1) := by decide +kernel
theorem dX3_leastJitter_54 : decode cX3_leastJitter 54 = .ok (.iconst 1, 1) := by decide +kernel
theorem dX3_leastJitter_55 : decode cX3_leastJitter 55 = .ok (.istore_n 3, 1) := by decide +kernel
theorem dX3_leastJitter_56 : decode cX3_leastJitter 56 = .ok (.iinc 4 1, 3) := by decide +kernel
theorem dX3_leastJitter_59 : decode cX3_leastJitter 59 = .ok (.goto (-52), 3) := by decide +kernel
theorem dX3_leastJitter_62 : decode cX3_leastJitter 62 = .ok (.lload_n 1, 1) := by decide +kernel
theorem dX3_leastJitter_63 : decode cX3_leastJitter 63 = .ok (.lreturn, 1) := by decide +kernel
theorem dX3_weightedOffset_0 : decode cX3_weightedOffset 0 = .ok (.lconst 0, 1) := by decide +kernel
theorem dX3_weightedOffset_1 : decode cX3_weightedOffset 1 = .ok (.lstore_n 1, 1) := by decide +kernel
theorem dX3_weightedOffset_2 : decode cX3_weightedOffset 2 = .ok (.lconst 0, 1) := by decide +kernel
theorem dX3_weightedOffset_3 : decode cX3_weightedOffset 3 = .ok (.lstore_n 3, 1) := by decide +kernel
theorem dX3_weightedOffset_4 : decode cX3_weightedOffset 4 = .ok (.iconst 0, 1) := by decide +kernel
theorem dX3_weightedOffset_5 : decode cX3_weightedOffset 5 = .ok (.istore 5, 2) := by decide +kernel
theorem dX3_weightedOffset_7 : decode cX3_weightedOffset 7 = .ok (.iload 5, 2) := by decide +kernel
theorem dX3_weightedOffset_9 : decode cX3_weightedOffset 9 = .ok (.bipush 8, 2) := by decide +kernel
theorem dX3_weightedOffset_11 : decode cX3_weightedOffset 11 = .ok (.if_icmp .ge 49, 3) := by decide +kernel
theorem dX3_weightedOffset_14 : decode cX3_weightedOffset 14 = .ok (.aload_n 0, 1) := by decide +kernel
theorem dX3_weightedOffset_15 : decode cX3_weightedOffset 15 = .ok (.getfield 34, 3) := by decide +kernel
theorem dX3_weightedOffset_18 : decode cX3_weightedOffset 18 = .ok (.iload 5, 2) := by decide +kernel
theorem dX3_weightedOffset_20 : decode cX3_weightedOffset 20 = .ok (.invokestatic 74, 3) := by decide +kernel
theorem dX3_weightedOffset_23 : decode cX3_weightedOffset 23 = .ok (.ifCond .eq 31, 3) := by decide +kernel
theorem dX3_weightedOffset_26 : decode cX3_weightedOffset 26 = .ok (.lload_n 1, 1) := by decide +kernel
theorem dX3_weightedOffset_27 : decode cX3_weightedOffset 27 = .ok (.aload_n 0, 1) := by decide +kernel
theorem dX3_weightedOffset_28 : decode cX3_weightedOffset 28 = .ok (.iload 5, 2) := by decide +kernel
theorem dX3_weightedOffset_30 : decode cX3_weightedOffset 30 = .ok (.invokevirtual 107, 3) := by decide +kernel
theorem dX3_weightedOffset_33 : decode cX3_weightedOffset 33 = .ok (.aload_n 0, 1) := by decide +kernel
theorem dX3_weightedOffset_34 : decode cX3_weightedOffset 34 = .ok (.getfield 12, 3) := by decide +kernel
theorem dX3_weightedOffset_37 : decode cX3_weightedOffset 37 = .ok (.iload 5, 2) := by decide +kernel
theorem dX3_weightedOffset_39 : decode cX3_weightedOffset 39 = .ok (.invokevirtual 78, 3) := by decide +kernel
theorem dX3_weightedOffset_42 : decode cX3_weightedOffset 42 = .ok (.lmul, 1) := by decide +kernel
theorem dX3_weightedOffset_43 : decode cX3_weightedOffset 43 = .ok (.ladd, 1) := by decide +kernel
theorem dX3_weightedOffset_44 : decode cX3_weightedOffset 44 = .ok (.lstore_n 1, 1) := by decide +kernel
theorem dX3_weightedOffset_45 : decode cX3_weightedOffset 45 = .ok (.lload_n 3, 1) := by decide +kernel
theorem dX3_weightedOffset_46 : decode cX3_weightedOffset 46 = .ok (.aload_n 0, 1) := by decide +kernel
theorem dX3_weightedOffset_47 : decode cX3_weightedOffset 47 = .ok (.iload 5, 2) := by decide +kernel
theorem dX3_weightedOffset_49 : decode cX3_weightedOffset 49 = .ok (.invokevirtual 107, 3) := by decide +kernel
theorem dX3_weightedOffset_52 : decode cX3_weightedOffset 52 = .ok (.ladd, 1) := by decide +kernel
theorem dX3_weightedOffset_53 : decode cX3_weightedOffset 53 = .ok (.lstore_n 3, 1) := by decide +kernel
theorem dX3_weightedOffset_54 : decode cX3_weightedOffset 54 = .ok (.iinc 5 1, 3) := by decide +kernel
theorem dX3_weightedOffset_57 : decode cX3_weightedOffset 57 = .ok (.goto (-50), 3) := by decide +kernel
theorem dX3_weightedOffset_60 : decode cX3_weightedOffset 60 = .ok (.lload_n 3, 1) := by decide +kernel
theorem dX3_weightedOffset_61 : decode cX3_weightedOffset 61 = .ok (.lconst 0, 1) := by decide +kernel
theorem dX3_weightedOffset_62 : decode cX3_weightedOffset 62 = .ok (.lcmp, 1) := by decide +kernel
theorem dX3_weightedOffset_63 : decode cX3_weightedOffset 63 = .ok (.ifCond .le 11, 3) := by decide +kernel
theorem dX3_weightedOffset_66 : decode cX3_weightedOffset 66 = .ok (.lload_n 1, 1) := by decide +kernel
theorem dX3_weightedOffset_67 : decode cX3_weightedOffset 67 = .ok (.lload_n 3, 1) := by decide +kernel
theorem dX3_weightedOffset_68 : decode cX3_weightedOffset 68 = .ok (.invokestatic 110, 3) := by decide +kernel
theorem dX3_weightedOffset_71 : decode cX3_weightedOffset 71 = .ok (.goto 4, 3) := by decide +kernel
theorem dX3_weightedOffset_74 : decode cX3_weightedOffset 74 = .ok (.lconst 0, 1) := by decide +kernel
theorem dX3_weightedOffset_75 : decode cX3_weightedOffset 75 = .ok (.lreturn, 1) := by decide +kernel
theorem dX3_weight_0 : decode cX3_weight 0 = .ok (.aload_n 0, 1) := by decide +kernel
theorem dX3_weight_1 : decode cX3_weight 1 = .ok (.getfield 18, 3) := by decide +kernel
theorem dX3_weight_4 : decode cX3_weight 4 = .ok (.iload_n 1, 1) := by decide +kernel
theorem dX3_weight_5 : decode cX3_weight 5 = .ok (.invokevirtual 78, 3) := by decide +kernel
theorem dX3_weight_8 : decode cX3_weight 8 = .ok (.lconst 1, 1) := by decide +kernel
theorem dX3_weight_9 : decode cX3_weight 9 = .ok (.ladd, 1) := by decide +kernel
theorem dX3_weight_10 : decode cX3_weight 10 = .ok (.lstore_n 2, 1) := by decide +kernel
theorem dX3_weight_11 : decode cX3_weight 11 = .ok (.lload_n 2, 1) := by decide +kernel
theorem dX3_weight_12 : decode cX3_weight 12 = .ok (.lconst 0, 1) := by decide +kernel
theorem dX3_weight_13 : decode cX3_weight 13 = .ok (.lcmp, 1) := by decide +kernel
theorem dX3_weight_14 : decode cX3_weight 14 = .ok (.ifCond .le 15, 3) := by decide +kernel
theorem dX3_weight_17 : decode cX3_weight 17 = .ok (.lconst 1, 1) := by decide +kernel
theorem dX3_weight_18 : decode cX3_weight 18 = .ok (.ldc2_w 114, 3) := by decide +kernel
theorem dX3_weight_21 : decode cX3_weight 21 = .ok (.lload_n 2, 1) := by decide +kernel
theorem dX3_weight_22 : decode cX3_weight 22 = .ok (.ldiv, 1) := by decide +kernel
theorem dX3_weight_23 : decode cX3_weight 23 = .ok (.invokestatic 116, 3) := by decide +kernel
theorem dX3_weight_26 : decode cX3_weight 26 = .ok (.goto 4, 3) := by decide +kernel
theorem dX3_weight_29 : decode cX3_weight 29 = .ok (.lconst 1, 1) := by decide +kernel
theorem dX3_weight_30 : decode cX3_weight 30 = .ok (.lreturn, 1) := by decide +kernel
theorem dX3_preferred_0 : decode cX3_preferred 0 = .ok (.iconst (-1), 1) := by decide +kernel
theorem dX3_preferred_1 : decode cX3_preferred 1 = .ok (.istore_n 1, 1) := by decide +kernel
theorem dX3_preferred_2 : decode cX3_preferred 2 = .ok (.iconst 0, 1) := by decide +kernel
theorem dX3_preferred_3 : decode cX3_preferred 3 = .ok (.istore_n 2, 1) := by decide +kernel
theorem dX3_preferred_4 : decode cX3_preferred 4 = .ok (.iload_n 2, 1) := by decide +kernel
theorem dX3_preferred_5 : decode cX3_preferred 5 = .ok (.bipush 8, 2) := by decide +kernel
theorem dX3_preferred_7 : decode cX3_preferred 7 = .ok (.if_icmp .ge 36, 3) := by decide +kernel
theorem dX3_preferred_10 : decode cX3_preferred 10 = .ok (.aload_n 0, 1) := by decide +kernel
theorem dX3_preferred_11 : decode cX3_preferred 11 = .ok (.getfield 34, 3) := by decide +kernel
theorem dX3_preferred_14 : decode cX3_preferred 14 = .ok (.iload_n 2, 1) := by decide +kernel
theorem dX3_preferred_15 : decode cX3_preferred 15 = .ok (.invokestatic 74, 3) := by decide +kernel
theorem dX3_preferred_18 : decode cX3_preferred 18 = .ok (.ifCond .eq 19, 3) := by decide +kernel
theorem dX3_preferred_21 : decode cX3_preferred 21 = .ok (.iload_n 1, 1) := by decide +kernel
theorem dX3_preferred_22 : decode cX3_preferred 22 = .ok (.iconst (-1), 1) := by decide +kernel
theorem dX3_preferred_23 : decode cX3_preferred 23 = .ok (.if_icmp .eq 12, 3) := by decide +kernel
theorem dX3_preferred_26 : decode cX3_preferred 26 = .ok (.aload_n 0, 1) := by decide +kernel
theorem dX3_preferred_27 : decode cX3_preferred 27 = .ok (.iload_n 2, 1) := by decide +kernel
theorem dX3_preferred_28 : decode cX3_preferred 28 = .ok (.iload_n 1, 1) := by decide +kernel
theorem dX3_preferred_29 : decode cX3_preferred 29 = .ok (.invokevirtual 119, 3) := by decide +kernel
theorem dX3_preferred_32 : decode cX3_preferred 32 = .ok (.ifCond .eq 5, 3) := by decide +kernel
theorem dX3_preferred_35 : decode cX3_preferred 35 = .ok (.iload_n 2, 1) := by decide +kernel
theorem dX3_preferred_36 : decode cX3_preferred 36 = .ok (.istore_n 1, 1) := by decide +kernel
theorem dX3_preferred_37 : decode cX3_preferred 37 = .ok (.iinc 2 1, 3) := by decide +kernel
theorem dX3_preferred_40 : decode cX3_preferred 40 = .ok (.goto (-36), 3) := by decide +kernel
theorem dX3_preferred_43 : decode cX3_preferred 43 = .ok (.iload_n 1, 1) := by decide +kernel
theorem dX3_preferred_44 : decode cX3_preferred 44 = .ok (.ireturn, 1) := by decide +kernel
theorem dX3_isBetter_0 : decode cX3_isBetter 0 = .ok (.aload_n 0, 1) := by decide +kernel
theorem dX3_isBetter_1 : decode cX3_isBetter 1 = .ok (.getfield 24, 3) := by decide +kernel
theorem dX3_isBetter_4 : decode cX3_isBetter 4 = .ok (.iload_n 1, 1) := by decide +kernel
theorem dX3_isBetter_5 : decode cX3_isBetter 5 = .ok (.invokevirtual 78, 3) := by decide +kernel
theorem dX3_isBetter_8 : decode cX3_isBetter 8 = .ok (.aload_n 0, 1) := by decide +kernel
theorem dX3_isBetter_9 : decode cX3_isBetter 9 = .ok (.getfield 24, 3) := by decide +kernel
theorem dX3_isBetter_12 : decode cX3_isBetter 12 = .ok (.iload_n 2, 1) := by decide +kernel
theorem dX3_isBetter_13 : decode cX3_isBetter 13 = .ok (.invokevirtual 78, 3) := by decide +kernel
theorem dX3_isBetter_16 : decode cX3_isBetter 16 = .ok (.lcmp, 1) := by decide +kernel
theorem dX3_isBetter_17 : decode cX3_isBetter 17 = .ok (.ifCond .eq 29, 3) := by decide +kernel
theorem dX3_isBetter_20 : decode cX3_isBetter 20 = .ok (.aload_n 0, 1) := by decide +kernel
theorem dX3_isBetter_21 : decode cX3_isBetter 21 = .ok (.getfield 24, 3) := by decide +kernel
theorem dX3_isBetter_24 : decode cX3_isBetter 24 = .ok (.iload_n 1, 1) := by decide +kernel
theorem dX3_isBetter_25 : decode cX3_isBetter 25 = .ok (.invokevirtual 78, 3) := by decide +kernel
theorem dX3_isBetter_28 : decode cX3_isBetter 28 = .ok (.aload_n 0, 1) := by decide +kernel
theorem dX3_isBetter_29 : decode cX3_isBetter 29 = .ok (.getfield 24, 3) := by decide +kernel
theorem dX3_isBetter_32 : decode cX3_isBetter 32 = .ok (.iload_n 2, 1) := by decide +kernel
theorem dX3_isBetter_33 : decode cX3_isBetter 33 = .ok (.invokevirtual 78, 3) := by decide +kernel
theorem dX3_isBetter_36 : decode cX3_isBetter 36 = .ok (.lcmp, 1) := by decide +kernel
theorem dX3_isBetter_37 : decode cX3_isBetter 37 = .ok (.ifCond .ge 7, 3) := by decide +kernel
theorem dX3_isBetter_40 : decode cX3_isBetter 40 = .ok (.iconst 1, 1) := by decide +kernel
theorem dX3_isBetter_41 : decode cX3_isBetter 41 = .ok (.goto 4, 3) := by decide +kernel
theorem dX3_isBetter_44 : decode cX3_isBetter 44 = .ok (.iconst 0, 1) := by decide +kernel
theorem dX3_isBetter_45 : decode cX3_isBetter 45 = .ok (.ireturn, 1) := by decide +kernel
theorem dX3_isBetter_46 : decode cX3_isBetter 46 = .ok (.aload_n 0, 1) := by decide +kernel
theorem dX3_isBetter_47 : decode cX3_isBetter 47 = .ok (.getfield 18, 3) := by decide +kernel
theorem dX3_isBetter_50 : decode cX3_isBetter 50 = .ok (.iload_n 1, 1) := by decide +kernel
theorem dX3_isBetter_51 : decode cX3_isBetter 51 = .ok (.invokevirtual 78, 3) := by decide +kernel
theorem dX3_isBetter_54 : decode cX3_isBetter 54 = .ok (.aload_n 0, 1) := by decide +kernel
theorem dX3_isBetter_55 : decode cX3_isBetter 55 = .ok (.getfield 18, 3) := by decide +kernel
theorem dX3_isBetter_58 : decode cX3_isBetter 58 = .ok (.iload_n 2, 1) := by decide +kernel
theorem dX3_isBetter_59 : decode cX3_isBetter 59 = .ok (.invokevirtual 78, 3) := by decide +kernel
theorem dX3_isBetter_62 : decode cX3_isBetter 62 = .ok (.lcmp, 1) := by decide +kernel
theorem dX3_isBetter_63 : decode cX3_isBetter 63 = .ok (.ifCond .ge 7, 3) := by decide +kernel
theorem dX3_isBetter_66 : decode cX3_isBetter 66 = .ok (.iconst 1, 1) := by decide +kernel
theorem dX3_isBetter_67 : decode cX3_isBetter 67 = .ok (.goto 4, 3) := by decide +kernel
theorem dX3_isBetter_70 : decode cX3_isBetter 70 = .ok (.iconst 0, 1) := by decide +kernel
theorem dX3_isBetter_71 : decode cX3_isBetter 71 = .ok (.ireturn, 1) := by decide +kernel
theorem dX3_contains_0 : decode cX3_contains 0 = .ok (.iload_n 0, 1) := by decide +kernel
theorem dX3_contains_1 : decode cX3_contains 1 = .ok (.iload_n 1, 1) := by decide +kernel
theorem dX3_contains_2 : decode cX3_contains 2 = .ok (.ishr, 1) := by decide +kernel
theorem dX3_contains_3 : decode cX3_contains 3 = .ok (.iconst 1, 1) := by decide +kernel
theorem dX3_contains_4 : decode cX3_contains 4 = .ok (.iand, 1) := by decide +kernel
theorem dX3_contains_5 : decode cX3_contains 5 = .ok (.ifCond .eq 7, 3) := by decide +kernel
theorem dX3_contains_8 : decode cX3_contains 8 = .ok (.iconst 1, 1) := by decide +kernel
theorem dX3_contains_9 : decode cX3_contains 9 = .ok (.goto 4, 3) := by decide +kernel
theorem dX3_contains_12 : decode cX3_contains 12 = .ok (.iconst 0, 1) := by decide +kernel
theorem dX3_contains_13 : decode cX3_contains 13 = .ok (.ireturn, 1) := by decide +kernel
theorem dX4_init_0 : decode cX4_init 0 = .ok (.aload_n 0, 1) := by decide +kernel
theorem dX4_init_1 : decode cX4_init 1 = .ok (.invokespecial 3, 3) := by decide +kernel
theorem dX4_init_4 : decode cX4_init 4 = .ok (.aload_n 0, 1) := by decide +kernel
theorem dX4_init_5 : decode cX4_init 5 = .ok (.new 9, 3) := by decide +kernel
theorem dX4_init_8 : decode cX4_init 8 = .ok (.dup, 1) := by decide +kernel
theorem dX4_init_9 : decode cX4_init 9 = .ok (.invokespecial 11, 3) := by decide +kernel
theorem dX4_init_12 : decode cX4_init 12 = .ok (.putfield 12, 3) := by decide +kernel
theorem dX4_init_15 : decode cX4_init 15 = .ok (.aload_n 0, 1) := by decide +kernel
theorem dX4_init_16 : decode cX4_init 16 = .ok (.new 9, 3) := by decide +kernel
theorem dX4_init_19 : decode cX4_init 19 = .ok (.dup, 1) := by decide +kernel
theorem dX4_init_20 : decode cX4_init 20 = .ok (.invokespecial 11, 3) := by decide +kernel
theorem dX4_init_23 : decode cX4_init 23 = .ok (.putfield 18, 3) := by decide +kernel
theorem dX4_init_26 : decode cX4_init 26 = .ok (.aload_n 0, 1) := by decide +kernel
theorem dX4_init_27 : decode cX4_init 27 = .ok (.new 9, 3) := by decide +kernel
theorem dX4_init_30 : decode cX4_init 30 = .ok (.dup, 1) := by decide +kernel
theorem dX4_init_31 : decode cX4_init 31 = .ok (.invokespecial 11, 3) := by decide +kernel
theorem dX4_init_34 : decode cX4_init 34 = .ok (.putfield 21, 3) := by decide +kernel
theorem dX4_init_37 : decode cX4_init 37 = .ok (.return_, 1) := by decide +kernel
theorem dX4_settle_0 : decode cX4_settle 0 = .ok (.aload_n 0, 1) := by decide +kernel
theorem dX4_settle_1 : decode cX4_settle 1 = .ok (.iload_n 1, 1) := by decide +kernel
theorem dX4_settle_2 : decode cX4_settle 2 = .ok (.putfield 24, 3) := by decide +kernel
theorem dX4_settle_5 : decode cX4_settle 5 = .ok (.aload_n 0, 1) := by decide +kernel
theorem dX4_settle_6 : decode cX4_settle 6 = .ok (.iload_n 2, 1) := by decide +kernel
theorem dX4_settle_7 : decode cX4_settle 7 = .ok (.putfield 28, 3) := by decide +kernel
theorem dX4_settle_10 : decode cX4_settle 10 = .ok (.aload_n 0, 1) := by decide +kernel
theorem dX4_settle_11 : decode cX4_settle 11 = .ok (.iload_n 3, 1) := by decide +kernel
theorem dX4_settle_12 : decode cX4_settle 12 = .ok (.i2l, 1) := by decide +kernel
theorem dX4_settle_13 : decode cX4_settle 13 = .ok (.putfield 31, 3) := by decide +kernel
theorem dX4_settle_16 : decode cX4_settle 16 = .ok (.aload_n 0, 1) := by decide +kernel
theorem dX4_settle_17 : decode cX4_settle 17 = .ok (.iload 4, 2) := by decide +kernel
theorem dX4_settle_19 : decode cX4_settle 19 = .ok (.i2l, 1) := by decide +kernel
theorem dX4_settle_20 : decode cX4_settle 20 = .ok (.putfield 35, 3) := by decide +kernel
theorem dX4_settle_23 : decode cX4_settle 23 = .ok (.aload_n 0, 1) := by decide +kernel
theorem dX4_settle_24 : decode cX4_settle 24 = .ok (.invokevirtual 38, 3) := by decide +kernel
theorem dX4_settle_27 : decode cX4_settle 27 = .ok (.return_, 1) := by decide +kernel
theorem dX4_forget_0 : decode cX4_forget 0 = .ok (.aload_n 0, 1) := by decide +kernel
theorem dX4_forget_1 : decode cX4_forget 1 = .ok (.iconst 0, 1) := by decide +kernel
theorem dX4_forget_2 : decode cX4_forget 2 = .ok (.putfield 41, 3) := by decide +kernel
theorem dX4_forget_5 : decode cX4_forget 5 = .ok (.aload_n 0, 1) := by decide +kernel
theorem dX4_forget_6 : decode cX4_forget 6 = .ok (.iconst 0, 1) := by decide +kernel
theorem dX4_forget_7 : decode cX4_forget 7 = .ok (.putfield 44, 3) := by decide +kernel
theorem dX4_forget_10 : decode cX4_forget 10 = .ok (.return_, 1) := by decide +kernel
theorem dX4_kept_0 : decode cX4_kept 0 = .ok (.aload_n 0, 1) := by decide +kernel
theorem dX4_kept_1 : decode cX4_kept 1 = .ok (.getfield 41, 3) := by decide +kernel
theorem dX4_kept_4 : decode cX4_kept 4 = .ok (.ireturn, 1) := by decide +kernel
theorem dX4_ownStratum_0 : decode cX4_ownStratum 0 = .ok (.aload_n 0, 1) := by decide +kernel
theorem dX4_ownStratum_1 : decode cX4_ownStratum 1 = .ok (.getfield 24, 3) := by decide +kernel
theorem dX4_ownStratum_4 : decode cX4_ownStratum 4 = .ok (.ireturn, 1) := by decide +kernel
theorem dX4_changeError_0 : decode cX4_changeError 0 = .ok (.aload_n 0, 1) := by decide +kernel
theorem dX4_changeError_1 : decode cX4_changeError 1 = .ok (.getfield 28, 3) := by decide +kernel
theorem dX4_changeError_4 : decode cX4_changeError 4 = .ok (.istore_n 2, 1) := by decide +kernel
theorem dX4_changeError_5 : decode cX4_changeError 5 = .ok (.aload_n 0, 1) := by decide +kernel
theorem dX4_changeError_6 : decode cX4_changeError 6 = .ok (.iload_n 1, 1) := by decide +kernel
theorem dX4_changeError_7 : decode cX4_changeError 7 = .ok (.putfield 28, 3) := by decide +kernel
theorem dX4_changeError_10 : decode cX4_changeError 10 = .ok (.iload_n 2, 1) := by decide +kernel
theorem dX4_changeError_11 : decode cX4_changeError 11 = .ok (.ireturn, 1) := by decide +kernel
theorem dX4_readingAt_0 : decode cX4_readingAt 0 = .ok (.lload_n 1, 1) := by decide +kernel
theorem dX4_readingAt_1 : decode cX4_readingAt 1 = .ok (.aload_n 0, 1) := by decide +kernel
theorem dX4_readingAt_2 : decode cX4_readingAt 2 = .ok (.getfield 28, 3) := by decide +kernel
theorem dX4_readingAt_5 : decode cX4_readingAt 5 = .ok (.i2l, 1) := by decide +kernel
theorem dX4_readingAt_6 : decode cX4_readingAt 6 = .ok (.ladd, 1) := by decide +kernel
theorem dX4_readingAt_7 : decode cX4_readingAt 7 = .ok (.lreturn, 1) := by decide +kernel
theorem dX4_keep_0 : decode cX4_keep 0 = .ok (.aload_n 0, 1) := by decide +kernel
theorem dX4_keep_1 : decode cX4_keep 1 = .ok (.getfield 12, 3) := by decide +kernel
theorem dX4_keep_4 : decode cX4_keep 4 = .ok (.lload_n 1, 1) := by decide +kernel
theorem dX4_keep_5 : decode cX4_keep 5 = .ok (.invokevirtual 47, 3) := by decide +kernel
theorem dX4_keep_8 : decode cX4_keep 8 = .ok (.aload_n 0, 1) := by decide +kernel
theorem dX4_keep_9 : decode cX4_keep 9 = .ok (.getfield 18, 3) := by decide +kernel
theorem dX4_keep_12 : decode cX4_keep 12 = .ok (.lload_n 3, 1) := by decide +kernel
theorem dX4_keep_13 : decode cX4_keep 13 = .ok (.invokevirtual 47, 3) := by decide +kernel
theorem dX4_keep_16 : decode cX4_keep 16 = .ok (.aload_n 0, 1) := by decide +kernel
theorem dX4_keep_17 : decode cX4_keep 17 = .ok (.getfield 21, 3) := by decide +kernel
theorem dX4_keep_20 : decode cX4_keep 20 = .ok (.lload 5, 2) := by decide +kernel
theorem dX4_keep_22 : decode cX4_keep 22 = .ok (.invokevirtual 47, 3) := by decide +kernel
theorem dX4_keep_25 : decode cX4_keep 25 = .ok (.aload_n 0, 1) := by decide +kernel
theorem dX4_keep_26 : decode cX4_keep 26 = .ok (.aload_n 0, 1) := by decide +kernel
theorem dX4_keep_27 : decode cX4_keep 27 = .ok (.getfield 41, 3) := by decide +kernel
theorem dX4_keep_30 : decode cX4_keep 30 = .ok (.iconst 1, 1) := by decide +kernel
theorem dX4_keep_31 : decode cX4_keep 31 = .ok (.iadd, 1) := by decide +kernel
theorem dX4_keep_32 : decode cX4_keep 32 = .ok (.bipush 8, 2) := by decide +kernel
theorem dX4_keep_34 : decode cX4_keep 34 = .ok (.invokestatic 51, 3) := by decide +kernel
theorem dX4_keep_37 : decode cX4_keep 37 = .ok (.putfield 41, 3) := by decide +kernel
theorem dX4_keep_40 : decode cX4_keep 40 = .ok (.aload_n 0, 1) := by decide +kernel
theorem dX4_keep_41 : decode cX4_keep 41 = .ok (.aload_n 0, 1) := by decide +kernel
theorem dX4_keep_42 : decode cX4_keep 42 = .ok (.invokevirtual 57, 3) := by decide +kernel
theorem dX4_keep_45 : decode cX4_keep 45 = .ok (.putfield 44, 3) := by decide +kernel
theorem dX4_keep_48 : decode cX4_keep 48 = .ok (.return_, 1) := by decide +kernel
theorem dX4_bestOffset_0 : decode cX4_bestOffset 0 = .ok (.aload_n 0, 1) := by decide +kernel
theorem dX4_bestOffset_1 : decode cX4_bestOffset 1 = .ok (.getfield 12, 3) := by decide +kernel
theorem dX4_bestOffset_4 : decode cX4_bestOffset 4 = .ok (.aload_n 0, 1) := by decide +kernel
theorem dX4_bestOffset_5 : decode cX4_bestOffset 5 = .ok (.getfield 44, 3) := by decide +kernel
theorem dX4_bestOffset_8 : decode cX4_bestOffset 8 = .ok (.invokevirtual 61, 3) := by decide +kernel
theorem dX4_bestOffset_11 : decode cX4_bestOffset 11 = .ok (.lreturn, 1) := by decide +kernel
theorem dX4_bestDelay_0 : decode cX4_bestDelay 0 = .ok (.aload_n 0, 1) := by decide +kernel
theorem dX4_bestDelay_1 : decode cX4_bestDelay 1 = .ok (.getfield 18, 3) := by decide +kernel
theorem dX4_bestDelay_4 : decode cX4_bestDelay 4 = .ok (.aload_n 0, 1) := by decide +kernel
theorem dX4_bestDelay_5 : decode cX4_bestDelay 5 = .ok (.getfield 44, 3) := by decide +kernel
theorem dX4_bestDelay_8 : decode cX4_bestDelay 8 = .ok (.invokevirtual 61, 3) := by decide +kernel
theorem dX4_bestDelay_11 : decode cX4_bestDelay 11 = .ok (.lreturn, 1) := by decide +kernel
theorem dX4_offsetJitter_0 : decode cX4_offsetJitter 0 = .ok (.aload_n 0, 1) := by decide +kernel
theorem dX4_offsetJitter_1 : decode cX4_offsetJitter 1 = .ok (.getfield 41, 3) := by decide +kernel
theorem dX4_offsetJitter_4 : decode cX4_offsetJitter 4 = .ok (.iconst 2, 1) := by decide +kernel
theorem dX4_offsetJitter_5 : decode cX4_offsetJitter 5 = .ok (.if_icmp .ge 5, 3) := by decide +kernel
theorem dX4_offsetJitter_8 : decode cX4_offsetJitter 8 = .ok (.lconst 0, 1) := by decide +kernel
theorem dX4_offsetJitter_9 : decode cX4_offsetJitter 9 = .ok (.lreturn, 1) := by decide +kernel
theorem dX4_offsetJitter_10 : decode cX4_offsetJitter 10 = .ok (.aload_n 0, 1) := by decide +kernel
theorem dX4_offsetJitter_11 : decode cX4_offsetJitter 11 = .ok (.getfield 12, 3) := by decide +kernel
theorem dX4_offsetJitter_14 : decode cX4_offsetJitter 14 = .ok (.aload_n 0, 1) := by decide +kernel
theorem dX4_offsetJitter_15 : decode cX4_offsetJitter 15 = .ok (.getfield 44, 3) := by decide +kernel
theorem dX4_offsetJitter_18 : decode cX4_offsetJitter 18 = .ok (.invokevirtual 61, 3) := by decide +kernel
theorem dX4_offsetJitter_21 : decode cX4_offsetJitter 21 = .ok (.lstore_n 1, 1) := by decide +kernel
theorem dX4_offsetJitter_22 : decode cX4_offsetJitter 22 = .ok (.lconst 0, 1) := by decide +kernel
theorem dX4_offsetJitter_23 : decode cX4_offsetJitter 23 = .ok (.lstore_n 3, 1) := by decide +kernel
theorem dX4_offsetJitter_24 : decode cX4_offsetJitter 24 = .ok (.iconst 0, 1) := by decide +kernel
theorem dX4_offsetJitter_25 : decode cX4_offsetJitter 25 = .ok (.istore 5, 2) := by decide +kernel
theorem dX4_offsetJitter_27 : decode cX4_offsetJitter 27 = .ok (.iload 5, 2) := by decide +kernel
theorem dX4_offsetJitter_29 : decode cX4_offsetJitter 29 = .ok (.aload_n 0, 1) := by decide +kernel
theorem dX4_offsetJitter_30 : decode cX4_offsetJitter 30 = .ok (.getfield 41, 3) := by decide +kernel
theorem dX4_offsetJitter_33 : decode cX4_offsetJitter 33 = .ok (.if_icmp .ge 26, 3) := by decide +kernel
theorem dX4_offsetJitter_36 : decode cX4_offsetJitter 36 = .ok (.lload_n 3, 1) := by decide +kernel
theorem dX4_offsetJitter_37 : decode cX4_offsetJitter 37 = .ok (.aload_n 0, 1) := by decide +kernel
theorem dX4_offsetJitter_38 : decode cX4_offsetJitter 38 = .ok (.getfield 12, 3) := by decide +kernel
theorem dX4_offsetJitter_41 : decode cX4_offsetJitter 41 = .ok (.iload 5, 2) := by decide +kernel
theorem dX4_offsetJitter_43 : decode cX4_offsetJitter 43 = .ok (.invokevirtual 61, 3) := by decide +kernel
theorem dX4_offsetJitter_46 : decode cX4_offsetJitter 46 = .ok (.lload_n 1, 1) := by decide +kernel
theorem dX4_offsetJitter_47 : decode cX4_offsetJitter 47 = .ok (.lsub, 1) := by decide +kernel
theorem dX4_offsetJitter_48 : decode cX4_offsetJitter 48 = .ok (.invokestatic 65, 3) := by decide +kernel
theorem dX4_offsetJitter_51 : decode cX4_offsetJitter 51 = .ok (.ladd, 1) := by decide +kernel
theorem dX4_offsetJitter_52 : decode cX4_offsetJitter 52 = .ok (.lstore_n 3, 1) := by decide +kernel
theorem dX4_offsetJitter_53 : decode cX4_offsetJitter 53 = .ok (.iinc 5 1, 3) := by decide +kernel
theorem dX4_offsetJitter_56 : decode cX4_offsetJitter 56 = .ok (.goto (-29), 3) := by decide +kernel
theorem dX4_offsetJitter_59 : decode cX4_offsetJitter 59 = .ok (.lload_n 3, 1) := by decide +kernel
theorem dX4_offsetJitter_60 : decode cX4_offsetJitter 60 = .ok (.aload_n 0, 1) := by decide +kernel
theorem dX4_offsetJitter_61 : decode cX4_offsetJitter 61 = .ok (.getfield 41, 3) := by decide +kernel
theorem dX4_offsetJitter_64 : decode cX4_offsetJitter 64 = .ok (.iconst 1, 1) := by decide +kernel
theorem dX4_offsetJitter_65 : decode cX4_offsetJitter 65 = .ok (.isub, 1) := by decide +kernel
theorem dX4_offsetJitter_66 : decode cX4_offsetJitter 66 = .ok (.i2l, 1) := by decide +kernel
theorem dX4_offsetJitter_67 : decode cX4_offsetJitter 67 = .ok (.ldiv, 1) := by decide +kernel
theorem dX4_offsetJitter_68 : decode cX4_offsetJitter 68 = .ok (.lreturn, 1) := by decide +kernel
theorem dX4_distanceAt_0 : decode cX4_distanceAt 0 = .ok (.lload_n 1, 1) := by decide +kernel
theorem dX4_distanceAt_1 : decode cX4_distanceAt 1 = .ok (.aload_n 0, 1) := by decide +kernel
theorem dX4_distanceAt_2 : decode cX4_distanceAt 2 = .ok (.getfield 21, 3) := by decide +kernel
theorem dX4_distanceAt_5 : decode cX4_distanceAt 5 = .ok (.aload_n 0, 1) := by decide +kernel
theorem dX4_distanceAt_6 : decode cX4_distanceAt 6 = .ok (.getfield 44, 3) := by decide +kernel
theorem dX4_distanceAt_9 : decode cX4_distanceAt 9 = .ok (.invokevirtual 61, 3) := by decide +kernel
theorem dX4_distanceAt_12 : decode cX4_distanceAt 12 = .ok (.lsub, 1) := by decide +kernel
theorem dX4_distanceAt_13 : decode cX4_distanceAt 13 = .ok (.lstore_n 3, 1) := by decide +kernel
theorem dX4_distanceAt_14 : decode cX4_distanceAt 14 = .ok (.aload_n 0, 1) := by decide +kernel
theorem dX4_distanceAt_15 : decode cX4_distanceAt 15 = .ok (.getfield 31, 3) := by decide +kernel
theorem dX4_distanceAt_18 : decode cX4_distanceAt 18 = .ok (.ldc2_w 69, 3) := by decide +kernel
theorem dX4_distanceAt_21 : decode cX4_distanceAt 21 = .ok (.ldiv, 1) := by decide +kernel
theorem dX4_distanceAt_22 : decode cX4_distanceAt 22 = .ok (.aload_n 0, 1) := by decide +kernel
theorem dX4_distanceAt_23 : decode cX4_distanceAt 23 = .ok (.invokevirtual 71, 3) := by decide +kernel
theorem dX4_distanceAt_26 : decode cX4_distanceAt 26 = .ok (.ldc2_w 69, 3) := by decide +kernel
theorem dX4_distanceAt_29 : decode cX4_distanceAt 29 = .ok (.ldiv, 1) := by decide +kernel
theorem dX4_distanceAt_30 : decode cX4_distanceAt 30 = .ok (.ladd, 1) := by decide +kernel
theorem dX4_distanceAt_31 : decode cX4_distanceAt 31 = .ok (.aload_n 0, 1) := by decide +kernel
theorem dX4_distanceAt_32 : decode cX4_distanceAt 32 = .ok (.getfield 35, 3) := by decide +kernel
theorem dX4_distanceAt_35 : decode cX4_distanceAt 35 = .ok (.ladd, 1) := by decide +kernel
theorem dX4_distanceAt_36 : decode cX4_distanceAt 36 = .ok (.aload_n 0, 1) := by decide +kernel
theorem dX4_distanceAt_37 : decode cX4_distanceAt 37 = .ok (.invokevirtual 75, 3) := by decide +kernel
theorem dX4_distanceAt_40 : decode cX4_distanceAt 40 = .ok (.ladd, 1) := by decide +kernel
theorem dX4_distanceAt_41 : decode cX4_distanceAt 41 = .ok (.ldc2_w 78, 3) := by decide +kernel
theorem dX4_distanceAt_44 : decode cX4_distanceAt 44 = .ok (.lload_n 3, 1) := by decide +kernel
theorem dX4_distanceAt_45 : decode cX4_distanceAt 45 = .ok (.lmul, 1) := by decide +kernel
theorem dX4_distanceAt_46 : decode cX4_distanceAt 46 = .ok (.ldc2_w 80, 3) := by decide +kernel
theorem dX4_distanceAt_49 : decode cX4_distanceAt 49 = .ok (.invokestatic 82, 3) := by decide +kernel
theorem dX4_distanceAt_52 : decode cX4_distanceAt 52 = .ok (.ladd, 1) := by decide +kernel
theorem dX4_distanceAt_53 : decode cX4_distanceAt 53 = .ok (.lreturn, 1) := by decide +kernel
theorem dX4_leastDelay_0 : decode cX4_leastDelay 0 = .ok (.iconst 0, 1) := by decide +kernel
theorem dX4_leastDelay_1 : decode cX4_leastDelay 1 = .ok (.istore_n 1, 1) := by decide +kernel
theorem dX4_leastDelay_2 : decode cX4_leastDelay 2 = .ok (.iconst 1, 1) := by decide +kernel
theorem dX4_leastDelay_3 : decode cX4_leastDelay 3 = .ok (.istore_n 2, 1) := by decide +kernel
theorem dX4_leastDelay_4 : decode cX4_leastDelay 4 = .ok (.iload_n 2, 1) := by decide +kernel
theorem dX4_leastDelay_5 : decode cX4_leastDelay 5 = .ok (.aload_n 0, 1) := by decide +kernel
theorem dX4_leastDelay_6 : decode cX4_leastDelay 6 = .ok (.getfield 41, 3) := by decide +kernel
theorem dX4_leastDelay_9 : decode cX4_leastDelay 9 = .ok (.if_icmp .ge 31, 3) := by decide +kernel
theorem dX4_leastDelay_12 : decode cX4_leastDelay 12 = .ok (.aload_n 0, 1) := by decide +kernel
theorem dX4_leastDelay_13 : decode cX4_leastDelay 13 = .ok (.getfield 18, 3) := by decide +kernel
theorem dX4_leastDelay_16 : decode cX4_leastDelay 16 = .ok (.iload_n 2, 1) := by decide +kernel
theorem dX4_leastDelay_17 : decode cX4_leastDelay 17 = .ok (.invokevirtual 61, 3) := by decide +kernel
theorem dX4_leastDelay_20 : decode cX4_leastDelay 20 = .ok (.aload_n 0, 1) := by decide +kernel
theorem dX4_leastDelay_21 : decode cX4_leastDelay 21 = .ok (.getfield 18, 3) := by decide +kernel
theorem dX4_leastDelay_24 : decode cX4_leastDelay 24 = .ok (.iload_n 1, 1) := by decide +kernel
theorem dX4_leastDelay_25 : decode cX4_leastDelay 25 = .ok (.invokevirtual 61, 3) := by decide +kernel
theorem dX4_leastDelay_28 : decode cX4_leastDelay 28 = .ok (.lcmp, 1) := by decide +kernel
theorem dX4_leastDelay_29 : decode cX4_leastDelay 29 = .ok (.ifCond .ge 5, 3) := by decide +kernel
theorem dX4_leastDelay_32 : decode cX4_leastDelay 32 = .ok (.iload_n 2, 1) := by decide +kernel
theorem dX4_leastDelay_33 : decode cX4_leastDelay 33 = .ok (.istore_n 1, 1) := by decide +kernel
theorem dX4_leastDelay_34 : decode cX4_leastDelay 34 = .ok (.iinc 2 1, 3) := by decide +kernel
theorem dX4_leastDelay_37 : decode cX4_leastDelay 37 = .ok (.goto (-33), 3) := by decide +kernel
theorem dX4_leastDelay_40 : decode cX4_leastDelay 40 = .ok (.iload_n 1, 1) := by decide +kernel
theorem dX4_leastDelay_41 : decode cX4_leastDelay 41 = .ok (.ireturn, 1) := by decide +kernel
theorem dX5_init_0 : decode cX5_init 0 = .ok (.aload_n 0, 1) := by decide +kernel
theorem dX5_init_1 : decode cX5_init 1 = .ok (.invokespecial 1, 3) := by decide +kernel
theorem dX5_init_4 : decode cX5_init 4 = .ok (.aload_n 0, 1) := by decide +kernel
theorem dX5_init_5 : decode cX5_init 5 = .ok (.new 7, 3) := by decide +kernel
theorem dX5_init_8 : decode cX5_init 8 = .ok (.dup, 1) := by decide +kernel
theorem dX5_init_9 : decode cX5_init 9 = .ok (.invokespecial 9, 3) := by decide +kernel
theorem dX5_init_12 : decode cX5_init 12 = .ok (.putfield 10, 3) := by decide +kernel
theorem dX5_init_15 : decode cX5_init 15 = .ok (.aload_n 0, 1) := by decide +kernel
theorem dX5_init_16 : decode cX5_init 16 = .ok (.new 16, 3) := by decide +kernel
theorem dX5_init_19 : decode cX5_init 19 = .ok (.dup, 1) := by decide +kernel
theorem dX5_init_20 : decode cX5_init 20 = .ok (.invokespecial 18, 3) := by decide +kernel
theorem dX5_init_23 : decode cX5_init 23 = .ok (.putfield 19, 3) := by decide +kernel
theorem dX5_init_26 : decode cX5_init 26 = .ok (.aload_n 0, 1) := by decide +kernel
theorem dX5_init_27 : decode cX5_init 27 = .ok (.bipush 8, 2) := by decide +kernel
theorem dX5_init_29 : decode cX5_init 29 = .ok (.anewarray 23, 3) := by decide +kernel
theorem dX5_init_32 : decode cX5_init 32 = .ok (.putfield 25, 3) := by decide +kernel
theorem dX5_init_35 : decode cX5_init 35 = .ok (.aload_n 0, 1) := by decide +kernel
theorem dX5_init_36 : decode cX5_init 36 = .ok (.new 29, 3) := by decide +kernel
theorem dX5_init_39 : decode cX5_init 39 = .ok (.dup, 1) := by decide +kernel
theorem dX5_init_40 : decode cX5_init 40 = .ok (.invokespecial 31, 3) := by decide +kernel
theorem dX5_init_43 : decode cX5_init 43 = .ok (.putfield 32, 3) := by decide +kernel
theorem dX5_init_46 : decode cX5_init 46 = .ok (.iconst 0, 1) := by decide +kernel
theorem dX5_init_47 : decode cX5_init 47 = .ok (.istore_n 1, 1) := by decide +kernel
theorem dX5_init_48 : decode cX5_init 48 = .ok (.iload_n 1, 1) := by decide +kernel
theorem dX5_init_49 : decode cX5_init 49 = .ok (.aload_n 0, 1) := by decide +kernel
theorem dX5_init_50 : decode cX5_init 50 = .ok (.getfield 25, 3) := by decide +kernel
theorem dX5_init_53 : decode cX5_init 53 = .ok (.arraylength, 1) := by decide +kernel
theorem dX5_init_54 : decode cX5_init 54 = .ok (.if_icmp .ge 22, 3) := by decide +kernel
theorem dX5_init_57 : decode cX5_init 57 = .ok (.aload_n 0, 1) := by decide +kernel
theorem dX5_init_58 : decode cX5_init 58 = .ok (.getfield 25, 3) := by decide +kernel
theorem dX5_init_61 : decode cX5_init 61 = .ok (.iload_n 1, 1) := by decide +kernel
theorem dX5_init_62 : decode cX5_init 62 = .ok (.new 23, 3) := by decide +kernel
theorem dX5_init_65 : decode cX5_init 65 = .ok (.dup, 1) := by decide +kernel
theorem dX5_init_66 : decode cX5_init 66 = .ok (.invokespecial 36, 3) := by decide +kernel
theorem dX5_init_69 : decode cX5_init 69 = .ok (.aastore, 1) := by decide +kernel
theorem dX5_init_70 : decode cX5_init 70 = .ok (.iinc 1 1, 3) := by decide +kernel
theorem dX5_init_73 : decode cX5_init 73 = .ok (.goto (-25), 3) := by decide +kernel
theorem dX5_init_76 : decode cX5_init 76 = .ok (.aload_n 0, 1) := by decide +kernel
theorem dX5_init_77 : decode cX5_init 77 = .ok (.iconst 0, 1) := by decide +kernel
theorem dX5_init_78 : decode cX5_init 78 = .ok (.invokevirtual 37, 3) := by decide +kernel
theorem dX5_init_81 : decode cX5_init 81 = .ok (.return_, 1) := by decide +kernel
theorem dX5_restart_0 : decode cX5_restart 0 = .ok (.iload_n 1, 1) := by decide +kernel
theorem dX5_restart_1 : decode cX5_restart 1 = .ok (.ldc 41, 2) := by decide +kernel
theorem dX5_restart_3 : decode cX5_restart 3 = .ok (.ldc 42, 2) := by decide +kernel
theorem dX5_restart_5 : decode cX5_restart 5 = .ok (.invokestatic 43, 3) := by decide +kernel
theorem dX5_restart_8 : decode cX5_restart 8 = .ok (.ifCond .ne 11, 3) := by decide +kernel
theorem dX5_restart_11 : decode cX5_restart 11 = .ok (.new 47, 3) := by decide +kernel
theorem dX5_restart_14 : decode cX5_restart 14 = .ok (.dup, 1) := by decide +kernel
theorem dX5_restart_15 : decode cX5_restart 15 = .ok (.invokespecial 49, 3) := by decide +kernel
theorem dX5_restart_18 : decode cX5_restart 18 = .ok (.athrow, 1) := by decide +kernel
theorem dX5_restart_19 : decode cX5_restart 19 = .ok (.aload_n 0, 1) := by decide +kernel
theorem dX5_restart_20 : decode cX5_restart 20 = .ok (.iload_n 1, 1) := by decide +kernel
theorem dX5_restart_21 : decode cX5_restart 21 = .ok (.invokevirtual 37, 3) := by decide +kernel
theorem dX5_restart_24 : decode cX5_restart 24 = .ok (.return_, 1) := by decide +kernel
theorem dX5_pass_0 : decode cX5_pass 0 = .ok (.iload_n 1, 1) := by decide +kernel
theorem dX5_pass_1 : decode cX5_pass 1 = .ok (.iconst 1, 1) := by decide +kernel
theorem dX5_pass_2 : decode cX5_pass 2 = .ok (.ldc 42, 2) := by decide +kernel
theorem dX5_pass_4 : decode cX5_pass 4 = .ok (.invokestatic 43, 3) := by decide +kernel
theorem dX5_pass_7 : decode cX5_pass 7 = .ok (.ifCond .ne 11, 3) := by decide +kernel
theorem dX5_pass_10 : decode cX5_pass 10 = .ok (.new 47, 3) := by decide +kernel
theorem dX5_pass_13 : decode cX5_pass 13 = .ok (.dup, 1) := by decide +kernel
theorem dX5_pass_14 : decode cX5_pass 14 = .ok (.invokespecial 49, 3) := by decide +kernel
theorem dX5_pass_17 : decode cX5_pass 17 = .ok (.athrow, 1) := by decide +kernel
theorem dX5_pass_18 : decode cX5_pass 18 = .ok (.aload_n 0, 1) := by decide +kernel
theorem dX5_pass_19 : decode cX5_pass 19 = .ok (.iload_n 1, 1) := by decide +kernel
theorem dX5_pass_20 : decode cX5_pass 20 = .ok (.i2l, 1) := by decide +kernel
theorem dX5_pass_21 : decode cX5_pass 21 = .ok (.invokevirtual 50, 3) := by decide +kernel
theorem dX5_pass_24 : decode cX5_pass 24 = .ok (.ifCond .eq 11, 3) := by decide +kernel
theorem dX5_pass_27 : decode cX5_pass 27 = .ok (.new 54, 3) := by decide +kernel
theorem dX5_pass_30 : decode cX5_pass 30 = .ok (.dup, 1) := by decide +kernel
theorem dX5_pass_31 : decode cX5_pass 31 = .ok (.invokespecial 56, 3) := by decide +kernel
theorem dX5_pass_34 : decode cX5_pass 34 = .ok (.athrow, 1) := by decide +kernel
theorem dX5_pass_35 : decode cX5_pass 35 = .ok (.aload_n 0, 1) := by decide +kernel
theorem dX5_pass_36 : decode cX5_pass 36 = .ok (.iload_n 1, 1) := by decide +kernel
theorem dX5_pass_37 : decode cX5_pass 37 = .ok (.invokevirtual 57, 3) := by decide +kernel
theorem dX5_pass_40 : decode cX5_pass 40 = .ok (.aload_n 0, 1) := by decide +kernel
theorem dX5_pass_41 : decode cX5_pass 41 = .ok (.getfield 10, 3) := by decide +kernel
theorem dX5_pass_44 : decode cX5_pass 44 = .ok (.invokevirtual 60, 3) := by decide +kernel
theorem dX5_pass_47 : decode cX5_pass 47 = .ok (.lreturn, 1) := by decide +kernel
theorem dX5_setDrift_0 : decode cX5_setDrift 0 = .ok (.iload_n 1, 1) := by decide +kernel
theorem dX5_setDrift_1 : decode cX5_setDrift 1 = .ok (.sipush (-300), 3) := by decide +kernel
theorem dX5_setDrift_4 : decode cX5_setDrift 4 = .ok (.sipush 300, 3) := by decide +kernel
theorem dX5_setDrift_7 : decode cX5_setDrift 7 = .ok (.invokestatic 43, 3) := by decide +kernel
theorem dX5_setDrift_10 : decode cX5_setDrift 10 = .ok (.ifCond .ne 11, 3) := by decide +kernel
theorem dX5_setDrift_13 : decode cX5_setDrift 13 = .ok (.new 47, 3) := by decide +kernel
theorem dX5_setDrift_16 : decode cX5_setDrift 16 = .ok (.dup, 1) := by decide +kernel
theorem dX5_setDrift_17 : decode cX5_setDrift 17 = .ok (.invokespecial 49, 3) := by decide +kernel
theorem dX5_setDrift_20 : decode cX5_setDrift 20 = .ok (.athrow, 1) := by decide +kernel
theorem dX5_setDrift_21 : decode cX5_setDrift 21 = .ok (.aload_n 0, 1) := by decide +kernel
theorem dX5_setDrift_22 : decode cX5_setDrift 22 = .ok (.getfield 10, 3) := by decide +kernel
theorem dX5_setDrift_25 : decode cX5_setDrift 25 = .ok (.iload_n 1, 1) := by decide +kernel
theorem dX5_setDrift_26 : decode cX5_setDrift 26 = .ok (.invokevirtual 64, 3) := by decide +kernel
theorem dX5_setDrift_29 : decode cX5_setDrift 29 = .ok (.ireturn, 1) := by decide +kernel
theorem dX5_trueTime_0 : decode cX5_trueTime 0 = .ok (.aload_n 0, 1) := by decide +kernel
theorem dX5_trueTime_1 : decode cX5_trueTime 1 = .ok (.getfield 68, 3) := by decide +kernel
theorem dX5_trueTime_4 : decode cX5_trueTime 4 = .ok (.lreturn, 1) := by decide +kernel
theorem dX5_clock_0 : decode cX5_clock 0 = .ok (.aload_n 0, 1) := by decide +kernel
theorem dX5_clock_1 : decode cX5_clock 1 = .ok (.getfield 10, 3) := by decide +kernel
theorem dX5_clock_4 : decode cX5_clock 4 = .ok (.invokevirtual 60, 3) := by decide +kernel
theorem dX5_clock_7 : decode cX5_clock 7 = .ok (.lreturn, 1) := by decide +kernel
theorem dX5_pendingSlew_0 : decode cX5_pendingSlew 0 = .ok (.aload_n 0, 1) := by decide +kernel
theorem dX5_pendingSlew_1 : decode cX5_pendingSlew 1 = .ok (.getfield 10, 3) := by decide +kernel
theorem dX5_pendingSlew_4 : decode cX5_pendingSlew 4 = .ok (.invokevirtual 72, 3) := by decide +kernel
theorem dX5_pendingSlew_7 : decode cX5_pendingSlew 7 = .ok (.lreturn, 1) := by decide +kernel
theorem dX5_correction_0 : decode cX5_correction 0 = .ok (.aload_n 0, 1) := by decide +kernel
theorem dX5_correction_1 : decode cX5_correction 1 = .ok (.getfield 10, 3) := by decide +kernel
theorem dX5_correction_4 : decode cX5_correction 4 = .ok (.invokevirtual 75, 3) := by decide +kernel
theorem dX5_correction_7 : decode cX5_correction 7 = .ok (.ireturn, 1) := by decide +kernel
theorem dX5_announceLeap_0 : decode cX5_announceLeap 0 = .ok (.iload_n 1, 1) := by decide +kernel
theorem dX5_announceLeap_1 : decode cX5_announceLeap 1 = .ok (.iconst 0, 1) := by decide +kernel
theorem dX5_announceLeap_2 : decode cX5_announceLeap 2 = .ok (.bipush 20, 2) := by decide +kernel
theorem dX5_announceLeap_4 : decode cX5_announceLeap 4 = .ok (.invokestatic 43, 3) := by decide +kernel
theorem dX5_announceLeap_7 : decode cX5_announceLeap 7 = .ok (.ifCond .ne 11, 3) := by decide +kernel
theorem dX5_announceLeap_10 : decode cX5_announceLeap 10 = .ok (.new 47, 3) := by decide +kernel
theorem dX5_announceLeap_13 : decode cX5_announceLeap 13 = .ok (.dup, 1) := by decide +kernel
theorem dX5_announceLeap_14 : decode cX5_announceLeap 14 = .ok (.invokespecial 49, 3) := by decide +kernel
theorem dX5_announceLeap_17 : decode cX5_announceLeap 17 = .ok (.athrow, 1) := by decide +kernel
theorem dX5_announceLeap_18 : decode cX5_announceLeap 18 = .ok (.iload_n 1, 1) := by decide +kernel
theorem dX5_announceLeap_19 : decode cX5_announceLeap 19 = .ok (.invokestatic 79, 3) := by decide +kernel
theorem dX5_announceLeap_22 : decode cX5_announceLeap 22 = .ok (.lstore_n 3, 1) := by decide +kernel
theorem dX5_announceLeap_23 : decode cX5_announceLeap 23 = .ok (.aload_n 0, 1) := by decide +kernel
theorem dX5_announceLeap_24 : decode cX5_announceLeap 24 = .ok (.getfield 19, 3) := by decide +kernel
theorem dX5_announceLeap_27 : decode cX5_announceLeap 27 = .ok (.iload_n 1, 1) := by decide +kernel
theorem dX5_announceLeap_28 : decode cX5_announceLeap 28 = .ok (.invokevirtual 83, 3) := by decide +kernel
theorem dX5_announceLeap_31 : decode cX5_announceLeap 31 = .ok (.ifCond .ne 15, 3) := by decide +kernel
theorem dX5_announceLeap_34 : decode cX5_announceLeap 34 = .ok (.aload_n 0, 1) := by decide +kernel
theorem dX5_announceLeap_35 : decode cX5_announceLeap 35 = .ok (.getfield 10, 3) := by decide +kernel
theorem dX5_announceLeap_38 : decode cX5_announceLeap 38 = .ok (.invokevirtual 60, 3) := by decide +kernel
theorem dX5_announceLeap_41 : decode cX5_announceLeap 41 = .ok (.lload_n 3, 1) := by decide +kernel
theorem dX5_announceLeap_42 : decode cX5_announceLeap 42 = .ok (.lcmp, 1) := by decide +kernel
theorem dX5_announceLeap_43 : decode cX5_announceLeap 43 = .ok (.ifCond .lt 11, 3) := by decide +kernel
theorem dX5_announceLeap_46 : decode cX5_announceLeap 46 = .ok (.new 54, 3) := by decide +kernel
theorem dX5_announceLeap_49 : decode cX5_announceLeap 49 = .ok (.dup, 1) := by decide +kernel
theorem dX5_announceLeap_50 : decode cX5_announceLeap 50 = .ok (.invokespecial 56, 3) := by decide +kernel
theorem dX5_announceLeap_53 : decode cX5_announceLeap 53 = .ok (.athrow, 1) := by decide +kernel
theorem dX5_announceLeap_54 : decode cX5_announceLeap 54 = .ok (.aload_n 0, 1) := by decide +kernel
theorem dX5_announceLeap_55 : decode cX5_announceLeap 55 = .ok (.getfield 19, 3) := by decide +kernel
theorem dX5_announceLeap_58 : decode cX5_announceLeap 58 = .ok (.iload_n 1, 1) := by decide +kernel
theorem dX5_announceLeap_59 : decode cX5_announceLeap 59 = .ok (.iload_n 2, 1) := by decide +kernel
theorem dX5_announceLeap_60 : decode cX5_announceLeap 60 = .ok (.invokevirtual 87, 3) := by decide +kernel
theorem dX5_announceLeap_63 : decode cX5_announceLeap 63 = .ok (.lload_n 3, 1) := by decide +kernel
theorem dX5_announceLeap_64 : decode cX5_announceLeap 64 = .ok (.lreturn, 1) := by decide +kernel
theorem dX5_civil_0 : decode cX5_civil 0 = .ok (.aload_n 0, 1) := by decide +kernel
theorem dX5_civil_1 : decode cX5_civil 1 = .ok (.getfield 19, 3) := by decide +kernel
theorem dX5_civil_4 : decode cX5_civil 4 = .ok (.aload_n 0, 1) := by decide +kernel
theorem dX5_civil_5 : decode cX5_civil 5 = .ok (.getfield 10, 3) := by decide +kernel
theorem dX5_civil_8 : decode cX5_civil 8 = .ok (.invokevirtual 60, 3) := by decide +kernel
theorem dX5_civil_11 : decode cX5_civil 11 = .ok (.invokevirtual 91, 3) := by decide +kernel
theorem dX5_civil_14 : decode cX5_civil 14 = .ok (.lreturn, 1) := by decide +kernel
theorem dX5_addServer_0 : decode cX5_addServer 0 = .ok (.iload_n 1, 1) := by decide +kernel
theorem dX5_addServer_1 : decode cX5_addServer 1 = .ok (.iconst 1, 1) := by decide +kernel
theorem dX5_addServer_2 : decode cX5_addServer 2 = .ok (.bipush 14, 2) := by decide +kernel
theorem dX5_addServer_4 : decode cX5_addServer 4 = .ok (.invokestatic 43, 3) := by decide +kernel
theorem dX5_addServer_7 : decode cX5_addServer 7 = .ok (.ifCond .eq 31, 3) := by decide +kernel
theorem dX5_addServer_10 : decode cX5_addServer 10 = .ok (.iload_n 2, 1) := by decide +kernel
theorem dX5_addServer_11 : decode cX5_addServer 11 = .ok (.invokestatic 95, 3) := by decide +kernel
theorem dX5_addServer_14 : decode cX5_addServer 14 = .ok (.ifCond .eq 24, 3) := by decide +kernel
theorem dX5_addServer_17 : decode cX5_addServer 17 = .ok (.iload_n 3, 1) := by decide +kernel
theorem dX5_addServer_18 : decode cX5_addServer 18 = .ok (.iconst 0, 1) := by decide +kernel
theorem dX5_addServer_19 : decode cX5_addServer 19 = .ok (.ldc 98, 2) := by decide +kernel
theorem dX5_addServer_21 : decode cX5_addServer 21 = .ok (.invokestatic 43, 3) := by decide +kernel
theorem dX5_addServer_24 : decode cX5_addServer 24 = .ok (.ifCond .eq 14, 3) := by decide +kernel
theorem dX5_addServer_27 : decode cX5_addServer 27 = .ok (.iload 4, 2) := by decide +kernel
theorem dX5_addServer_29 : decode cX5_addServer 29 = .ok (.iconst 0, 1) := by decide +kernel
theorem dX5_addServer_30 : decode cX5_addServer 30 = .ok (.ldc 98, 2) := by decide +kernel
theorem dX5_addServer_32 : decode cX5_addServer 32 = .ok (.invokestatic 43, 3) := by decide +kernel
theorem dX5_addServer_35 : decode cX5_addServer 35 = .ok (.ifCond .ne 11, 3) := by decide +kernel
theorem dX5_addServer_38 : decode cX5_addServer 38 = .ok (.new 47, 3) := by decide +kernel
theorem dX5_addServer_41 : decode cX5_addServer 41 = .ok (.dup, 1) := by decide +kernel
theorem dX5_addServer_42 : decode cX5_addServer 42 = .ok (.invokespecial 49, 3) := by decide +kernel
theorem dX5_addServer_45 : decode cX5_addServer 45 = .ok (.athrow, 1) := by decide +kernel
theorem dX5_addServer_46 : decode cX5_addServer 46 = .ok (.aload_n 0, 1) := by decide +kernel
theorem dX5_addServer_47 : decode cX5_addServer 47 = .ok (.getfield 99, 3) := by decide +kernel
theorem dX5_addServer_50 : decode cX5_addServer 50 = .ok (.bipush 8, 2) := by decide +kernel
theorem dX5_addServer_52 : decode cX5_addServer 52 = .ok (.if_icmp .ge 14, 3) := by decide +kernel
theorem dX5_addServer_55 : decode cX5_addServer 55 = .ok (.aload_n 0, 1) := by decide +kernel
theorem dX5_addServer_56 : decode cX5_addServer 56 = .ok (.aload_n 0, 1) := by decide +kernel
theorem dX5_addServer_57 : decode cX5_addServer 57 = .ok (.getfield 99, 3) := by decide +kernel
theorem dX5_addServer_60 : decode cX5_addServer 60 = .ok (.invokevirtual 103, 3) := by decide +kernel
theorem dX5_addServer_63 : decode cX5_addServer 63 = .ok (.goto 4, 3) := by decide +kernel
theorem dX5_addServer_66 : decode cX5_addServer 66 = .ok (.aconst_null, 1) := by decide +kernel
theorem dX5_addServer_67 : decode cX5_addServer 67 = .ok (.astore 5, 2) := by decide +kernel
theorem dX5_addServer_69 : decode cX5_addServer 69 = .ok (.aload 5, 2) := by decide +kernel
theorem dX5_addServer_71 : decode cX5_addServer 71 = .ok (.ifnonnull 11, 3) := by decide +kernel
theorem dX5_addServer_74 : decode cX5_addServer 74 = .ok (.new 54, 3) := by decide +kernel
theorem dX5_addServer_77 : decode cX5_addServer 77 = .ok (.dup, 1) := by decide +kernel
theorem dX5_addServer_78 : decode cX5_addServer 78 = .ok (.invokespecial 56, 3) := by decide +kernel
theorem dX5_addServer_81 : decode cX5_addServer 81 = .ok (.athrow, 1) := by decide +kernel
theorem dX5_addServer_82 : decode cX5_addServer 82 = .ok (.aload 5, 2) := by decide +kernel
theorem dX5_addServer_84 : decode cX5_addServer 84 = .ok (.iload_n 1, 1) := by decide +kernel
theorem dX5_addServer_85 : decode cX5_addServer 85 = .ok (.iload_n 2, 1) := by decide +kernel
theorem dX5_addServer_86 : decode cX5_addServer 86 = .ok (.iload_n 3, 1) := by decide +kernel
theorem dX5_addServer_87 : decode cX5_addServer 87 = .ok (.iload 4, 2) := by decide +kernel
theorem dX5_addServer_89 : decode cX5_addServer 89 = .ok (.invokevirtual 107, 3) := by decide +kernel
theorem dX5_addServer_92 : decode cX5_addServer 92 = .ok (.aload_n 0, 1) := by decide +kernel
theorem dX5_addServer_93 : decode cX5_addServer 93 = .ok (.dup, 1) := by decide +kernel
theorem dX5_addServer_94 : decode cX5_addServer 94 = .ok (.getfield 99, 3) := by decide +kernel
theorem dX5_addServer_97 : decode cX5_addServer 97 = .ok (.iconst 1, 1) := by decide +kernel
theorem dX5_addServer_98 : decode cX5_addServer 98 = .ok (.iadd, 1) := by decide +kernel
theorem dX5_addServer_99 : decode cX5_addServer 99 = .ok (.putfield 99, 3) := by decide +kernel
theorem dX5_addServer_102 : decode cX5_addServer 102 = .ok (.aload_n 0, 1) := by decide +kernel
theorem dX5_addServer_103 : decode cX5_addServer 103 = .ok (.getfield 99, 3) := by decide +kernel
theorem dX5_addServer_106 : decode cX5_addServer 106 = .ok (.iconst 1, 1) := by decide +kernel
theorem dX5_addServer_107 : decode cX5_addServer 107 = .ok (.isub, 1) := by decide +kernel
theorem dX5_addServer_108 : decode cX5_addServer 108 = .ok (.ireturn, 1) := by decide +kernel
theorem dX5_setError_0 : decode cX5_setError 0 = .ok (.aload_n 0, 1) := by decide +kernel
theorem dX5_setError_1 : decode cX5_setError 1 = .ok (.iload_n 1, 1) := by decide +kernel
theorem dX5_setError_2 : decode cX5_setError 2 = .ok (.invokevirtual 111, 3) := by decide +kernel
theorem dX5_setError_5 : decode cX5_setError 5 = .ok (.astore_n 3, 1) := by decide +kernel
theorem dX5_setError_6 : decode cX5_setError 6 = .ok (.iload_n 2, 1) := by decide +kernel
theorem dX5_setError_7 : decode cX5_setError 7 = .ok (.invokestatic 95, 3) := by decide +kernel
theorem dX5_setError_10 : decode cX5_setError 10 = .ok (.ifCond .ne 11, 3) := by decide +kernel
theorem dX5_setError_13 : decode cX5_setError 13 = .ok (.new 47, 3) := by decide +kernel
theorem dX5_setError_16 : decode cX5_setError 16 = .ok (.dup, 1) := by decide +kernel
theorem dX5_setError_17 : decode cX5_setError 17 = .ok (.invokespecial 49, 3) := by decide +kernel
theorem dX5_setError_20 : decode cX5_setError 20 = .ok (.athrow, 1) := by decide +kernel
theorem dX5_setError_21 : decode cX5_setError 21 = .ok (.aload_n 3, 1) := by decide +kernel
theorem dX5_setError_22 : decode cX5_setError 22 = .ok (.iload_n 2, 1) := by decide +kernel
theorem dX5_setError_23 : decode cX5_setError 23 = .ok (.invokevirtual 114, 3) := by decide +kernel
theorem dX5_setError_26 : decode cX5_setError 26 = .ok (.ireturn, 1) := by decide +kernel
theorem dX5_exchange_0 : decode cX5_exchange 0 = .ok (.aload_n 0, 1) := by decide +kernel
theorem dX5_exchange_1 : decode cX5_exchange 1 = .ok (.iload_n 1, 1) := by decide +kernel
theorem dX5_exchange_2 : decode cX5_exchange 2 = .ok (.invokevirtual 111, 3) := by decide +kernel
theorem dX5_exchange_5 : decode cX5_exchange 5 = .ok (.astore 5, 2) := by decide +kernel
theorem dX5_exchange_7 : decode cX5_exchange 7 = .ok (.iload_n 2, 1) := by decide +kernel
theorem dX5_exchange_8 : decode cX5_exchange 8 = .ok (.iconst 0, 1) := by decide +kernel
theorem dX5_exchange_9 : decode cX5_exchange 9 = .ok (.ldc 117, 2) := by decide +kernel
theorem dX5_exchange_11 : decode cX5_exchange 11 = .ok (.invokestatic 43, 3) := by decide +kernel
theorem dX5_exchange_14 : decode cX5_exchange 14 = .ok (.ifCond .eq 24, 3) := by decide +kernel
theorem dX5_exchange_17 : decode cX5_exchange 17 = .ok (.iload_n 3, 1) := by decide +kernel
theorem dX5_exchange_18 : decode cX5_exchange 18 = .ok (.iconst 0, 1) := by decide +kernel
theorem dX5_exchange_19 : decode cX5_exchange 19 = .ok (.ldc 118, 2) := by decide +kernel
theorem dX5_exchange_21 : decode cX5_exchange 21 = .ok (.invokestatic 43, 3) := by decide +kernel
theorem dX5_exchange_24 : decode cX5_exchange 24 = .ok (.ifCond .eq 14, 3) := by decide +kernel
theorem dX5_exchange_27 : decode cX5_exchange 27 = .ok (.iload 4, 2) := by decide +kernel
theorem dX5_exchange_29 : decode cX5_exchange 29 = .ok (.iconst 0, 1) := by decide +kernel
theorem dX5_exchange_30 : decode cX5_exchange 30 = .ok (.ldc 117, 2) := by decide +kernel
theorem dX5_exchange_32 : decode cX5_exchange 32 = .ok (.invokestatic 43, 3) := by decide +kernel
theorem dX5_exchange_35 : decode cX5_exchange 35 = .ok (.ifCond .ne 11, 3) := by decide +kernel
theorem dX5_exchange_38 : decode cX5_exchange 38 = .ok (.new 47, 3) := by decide +kernel
theorem dX5_exchange_41 : decode cX5_exchange 41 = .ok (.dup, 1) := by decide +kernel
theorem dX5_exchange_42 : decode cX5_exchange 42 = .ok (.invokespecial 49, 3) := by decide +kernel
theorem dX5_exchange_45 : decode cX5_exchange 45 = .ok (.athrow, 1) := by decide +kernel
theorem dX5_exchange_46 : decode cX5_exchange 46 = .ok (.aload_n 0, 1) := by decide +kernel
theorem dX5_exchange_47 : decode cX5_exchange 47 = .ok (.iload_n 2, 1) := by decide +kernel
theorem dX5_exchange_48 : decode cX5_exchange 48 = .ok (.i2l, 1) := by decide +kernel
theorem dX5_exchange_49 : decode cX5_exchange 49 = .ok (.iload_n 3, 1) := by decide +kernel
theorem dX5_exchange_50 : decode cX5_exchange 50 = .ok (.i2l, 1) := by decide +kernel
theorem dX5_exchange_51 : decode cX5_exchange 51 = .ok (.ladd, 1) := by decide +kernel
theorem dX5_exchange_52 : decode cX5_exchange 52 = .ok (.iload 4, 2) := by decide +kernel
theorem dX5_exchange_54 : decode cX5_exchange 54 = .ok (.i2l, 1) := by decide +kernel
theorem dX5_exchange_55 : decode cX5_exchange 55 = .ok (.ladd, 1) := by decide +kernel
theorem dX5_exchange_56 : decode cX5_exchange 56 = .ok (.invokevirtual 50, 3) := by decide +kernel
theorem dX5_exchange_59 : decode cX5_exchange 59 = .ok (.ifCond .eq 11, 3) := by decide +kernel
theorem dX5_exchange_62 : decode cX5_exchange 62 = .ok (.new 54, 3) := by decide +kernel
theorem dX5_exchange_65 : decode cX5_exchange 65 = .ok (.dup, 1) := by decide +kernel
theorem dX5_exchange_66 : decode cX5_exchange 66 = .ok (.invokespecial 56, 3) := by decide +kernel
theorem dX5_exchange_69 : decode cX5_exchange 69 = .ok (.athrow, 1) := by decide +kernel
theorem dX5_exchange_70 : decode cX5_exchange 70 = .ok (.aload_n 0, 1) := by decide +kernel
theorem dX5_exchange_71 : decode cX5_exchange 71 = .ok (.aload 5, 2) := by decide +kernel
theorem dX5_exchange_73 : decode cX5_exchange 73 = .ok (.iload_n 2, 1) := by decide +kernel
theorem dX5_exchange_74 : decode cX5_exchange 74 = .ok (.iload_n 3, 1) := by decide +kernel
theorem dX5_exchange_75 : decode cX5_exchange 75 = .ok (.iload 4, 2) := by decide +kernel
theorem dX5_exchange_77 : decode cX5_exchange 77 = .ok (.invokevirtual 119, 3) := by decide +kernel
theorem dX5_exchange_80 : decode cX5_exchange 80 = .ok (.lreturn, 1) := by decide +kernel
theorem dX5_servers_0 : decode cX5_servers 0 = .ok (.aload_n 0, 1) := by decide +kernel
theorem dX5_servers_1 : decode cX5_servers 1 = .ok (.getfield 99, 3) := by decide +kernel
theorem dX5_servers_4 : decode cX5_servers 4 = .ok (.ireturn, 1) := by decide +kernel
theorem dX5_samples_0 : decode cX5_samples 0 = .ok (.aload_n 0, 1) := by decide +kernel
theorem dX5_samples_1 : decode cX5_samples 1 = .ok (.iload_n 1, 1) := by decide +kernel
theorem dX5_samples_2 : decode cX5_samples 2 = .ok (.invokevirtual 111, 3) := by decide +kernel
theorem dX5_samples_5 : decode cX5_samples 5 = .ok (.invokevirtual 123, 3) := by decide +kernel
theorem dX5_samples_8 : decode cX5_samples 8 = .ok (.ireturn, 1) := by decide +kernel
theorem dX5_offset_0 : decode cX5_offset 0 = .ok (.aload_n 0, 1) := by decide +kernel
theorem dX5_offset_1 : decode cX5_offset 1 = .ok (.iload_n 1, 1) := by decide +kernel
theorem dX5_offset_2 : decode cX5_offset 2 = .ok (.invokevirtual 126, 3) := by decide +kernel
theorem dX5_offset_5 : decode cX5_offset 5 = .ok (.invokevirtual 129, 3) := by decide +kernel
theorem dX5_offset_8 : decode cX5_offset 8 = .ok (.lreturn, 1) := by decide +kernel
theorem dX5_delay_0 : decode cX5_delay 0 = .ok (.aload_n 0, 1) := by decide +kernel
theorem dX5_delay_1 : decode cX5_delay 1 = .ok (.iload_n 1, 1) := by decide +kernel
theorem dX5_delay_2 : decode cX5_delay 2 = .ok (.invokevirtual 126, 3) := by decide +kernel
theorem dX5_delay_5 : decode cX5_delay 5 = .ok (.invokevirtual 132, 3) := by decide +kernel
theorem dX5_delay_8 : decode cX5_delay 8 = .ok (.lreturn, 1) := by decide +kernel
theorem dX5_jitter_0 : decode cX5_jitter 0 = .ok (.aload_n 0, 1) := by decide +kernel
theorem dX5_jitter_1 : decode cX5_jitter 1 = .ok (.iload_n 1, 1) := by decide +kernel
theorem dX5_jitter_2 : decode cX5_jitter 2 = .ok (.invokevirtual 126, 3) := by decide +kernel
theorem dX5_jitter_5 : decode cX5_jitter 5 = .ok (.invokevirtual 135, 3) := by decide +kernel
theorem dX5_jitter_8 : decode cX5_jitter 8 = .ok (.lreturn, 1) := by decide +kernel
theorem dX5_distance_0 : decode cX5_distance 0 = .ok (.aload_n 0, 1) := by decide +kernel
theorem dX5_distance_1 : decode cX5_distance 1 = .ok (.iload_n 1, 1) := by decide +kernel
theorem dX5_distance_2 : decode cX5_distance 2 = .ok (.invokevirtual 126, 3) := by decide +kernel
theorem dX5_distance_5 : decode cX5_distance 5 = .ok (.aload_n 0, 1) := by decide +kernel
theorem dX5_distance_6 : decode cX5_distance 6 = .ok (.getfield 10, 3) := by decide +kernel
theorem dX5_distance_9 : decode cX5_distance 9 = .ok (.invokevirtual 60, 3) := by decide +kernel
theorem dX5_distance_12 : decode cX5_distance 12 = .ok (.invokevirtual 138, 3) := by decide +kernel
theorem dX5_distance_15 : decode cX5_distance 15 = .ok (.lreturn, 1) := by decide +kernel
theorem dX5_agreement_0 : decode cX5_agreement 0 = .ok (.aload_n 0, 1) := by decide +kernel
theorem dX5_agreement_1 : decode cX5_agreement 1 = .ok (.invokevirtual 141, 3) := by decide +kernel
theorem dX5_agreement_4 : decode cX5_agreement 4 = .ok (.aload_n 0, 1) := by decide +kernel
theorem dX5_agreement_5 : decode cX5_agreement 5 = .ok (.getfield 32, 3) := by decide +kernel
theorem dX5_agreement_8 : decode cX5_agreement 8 = .ok (.invokevirtual 144, 3) := by decide +kernel
theorem dX5_agreement_11 : decode cX5_agreement 11 = .ok (.ireturn, 1) := by decide +kernel
theorem dX5_hasMajority_0 : decode cX5_hasMajority 0 = .ok (.aload_n 0, 1) := by decide +kernel
theorem dX5_hasMajority_1 : decode cX5_hasMajority 1 = .ok (.invokevirtual 141, 3) := by decide +kernel
theorem dX5_hasMajority_4 : decode cX5_hasMajority 4 = .ok (.aload_n 0, 1) := by decide +kernel
theorem dX5_hasMajority_5 : decode cX5_hasMajority 5 = .ok (.getfield 32, 3) := by decide +kernel
theorem dX5_hasMajority_8 : decode cX5_hasMajority 8 = .ok (.invokevirtual 147, 3) := by decide +kernel
theorem dX5_hasMajority_11 : decode cX5_hasMajority 11 = .ok (.ireturn, 1) := by decide +kernel
theorem dX5_agreeing_0 : decode cX5_agreeing 0 = .ok (.aload_n 0, 1) := by decide +kernel
theorem dX5_agreeing_1 : decode cX5_agreeing 1 = .ok (.invokevirtual 141, 3) := by decide +kernel
theorem dX5_agreeing_4 : decode cX5_agreeing 4 = .ok (.aload_n 0, 1) := by decide +kernel
theorem dX5_agreeing_5 : decode cX5_agreeing 5 = .ok (.getfield 32, 3) := by decide +kernel
theorem dX5_agreeing_8 : decode cX5_agreeing 8 = .ok (.invokevirtual 151, 3) := by decide +kernel
theorem dX5_agreeing_11 : decode cX5_agreeing 11 = .ok (.ireturn, 1) := by decide +kernel
theorem dX5_low_0 : decode cX5_low 0 = .ok (.aload_n 0, 1) := by decide +kernel
theorem dX5_low_1 : decode cX5_low 1 = .ok (.invokevirtual 154, 3) := by decide +kernel
theorem dX5_low_4 : decode cX5_low 4 = .ok (.aload_n 0, 1) := by decide +kernel
theorem dX5_low_5 : decode cX5_low 5 = .ok (.getfield 32, 3) := by decide +kernel
theorem dX5_low_8 : decode cX5_low 8 = .ok (.invokevirtual 157, 3) := by decide +kernel
theorem dX5_low_11 : decode cX5_low 11 = .ok (.lreturn, 1) := by decide +kernel
theorem dX5_high_0 : decode cX5_high 0 = .ok (.aload_n 0, 1) := by decide +kernel
theorem dX5_high_1 : decode cX5_high 1 = .ok (.invokevirtual 154, 3) := by decide +kernel
theorem dX5_high_4 : decode cX5_high 4 = .ok (.aload_n 0, 1) := by decide +kernel
theorem dX5_high_5 : decode cX5_high 5 = .ok (.getfield 32, 3) := by decide +kernel
theorem dX5_high_8 : decode cX5_high 8 = .ok (.invokevirtual 160, 3) := by decide +kernel
theorem dX5_high_11 : decode cX5_high 11 = .ok (.lreturn, 1) := by decide +kernel
theorem dX5_survivors_0 : decode cX5_survivors 0 = .ok (.aload_n 0, 1) := by decide +kernel
theorem dX5_survivors_1 : decode cX5_survivors 1 = .ok (.invokevirtual 141, 3) := by decide +kernel
theorem dX5_survivors_4 : decode cX5_survivors 4 = .ok (.aload_n 0, 1) := by decide +kernel
theorem dX5_survivors_5 : decode cX5_survivors 5 = .ok (.getfield 32, 3) := by decide +kernel
theorem dX5_survivors_8 : decode cX5_survivors 8 = .ok (.invokevirtual 163, 3) := by decide +kernel
theorem dX5_survivors_11 : decode cX5_survivors 11 = .ok (.ireturn, 1) := by decide +kernel
theorem dX5_combinedOffset_0 : decode cX5_combinedOffset 0 = .ok (.aload_n 0, 1) := by decide +kernel
theorem dX5_combinedOffset_1 : decode cX5_combinedOffset 1 = .ok (.invokevirtual 154, 3) := by decide +kernel
theorem dX5_combinedOffset_4 : decode cX5_combinedOffset 4 = .ok (.aload_n 0, 1) := by decide +kernel
theorem dX5_combinedOffset_5 : decode cX5_combinedOffset 5 = .ok (.getfield 32, 3) := by decide +kernel
theorem dX5_combinedOffset_8 : decode cX5_combinedOffset 8 = .ok (.invokevirtual 166, 3) := by decide +kernel
theorem dX5_combinedOffset_11 : decode cX5_combinedOffset 11 = .ok (.lreturn, 1) := by decide +kernel
theorem dX5_peer_0 : decode cX5_peer 0 = .ok (.aload_n 0, 1) := by decide +kernel
theorem dX5_peer_1 : decode cX5_peer 1 = .ok (.invokevirtual 141, 3) := by decide +kernel
theorem dX5_peer_4 : decode cX5_peer 4 = .ok (.aload_n 0, 1) := by decide +kernel
theorem dX5_peer_5 : decode cX5_peer 5 = .ok (.getfield 32, 3) := by decide +kernel
theorem dX5_peer_8 : decode cX5_peer 8 = .ok (.invokevirtual 169, 3) := by decide +kernel
theorem dX5_peer_11 : decode cX5_peer 11 = .ok (.ireturn, 1) := by decide +kernel
theorem dX5_synchronize_0 : decode cX5_synchronize 0 = .ok (.aload_n 0, 1) := by decide +kernel
theorem dX5_synchronize_1 : decode cX5_synchronize 1 = .ok (.invokevirtual 141, 3) := by decide +kernel
theorem dX5_synchronize_4 : decode cX5_synchronize 4 = .ok (.aload_n 0, 1) := by decide +kernel
theorem dX5_synchronize_5 : decode cX5_synchronize 5 = .ok (.getfield 32, 3) := by decide +kernel
theorem dX5_synchronize_8 : decode cX5_synchronize 8 = .ok (.invokevirtual 147, 3) := by decide +kernel
theorem dX5_synchronize_11 : decode cX5_synchronize 11 = .ok (.ifCond .ne 11, 3) := by decide +kernel
theorem dX5_synchronize_14 : decode cX5_synchronize 14 = .ok (.new 54, 3) := by decide +kernel
theorem dX5_synchronize_17 : decode cX5_synchronize 17 = .ok (.dup, 1) := by decide +kernel
theorem dX5_synchronize_18 : decode cX5_synchronize 18 = .ok (.invokespecial 56, 3) := by decide +kernel
theorem dX5_synchronize_21 : decode cX5_synchronize 21 = .ok (.athrow, 1) := by decide +kernel
theorem dX5_synchronize_22 : decode cX5_synchronize 22 = .ok (.aload_n 0, 1) := by decide +kernel
theorem dX5_synchronize_23 : decode cX5_synchronize 23 = .ok (.getfield 32, 3) := by decide +kernel
theorem dX5_synchronize_26 : decode cX5_synchronize 26 = .ok (.invokevirtual 166, 3) := by decide +kernel
theorem dX5_synchronize_29 : decode cX5_synchronize 29 = .ok (.lstore_n 1, 1) := by decide +kernel
theorem dX5_synchronize_30 : decode cX5_synchronize 30 = .ok (.aload_n 0, 1) := by decide +kernel
theorem dX5_synchronize_31 : decode cX5_synchronize 31 = .ok (.lload_n 1, 1) := by decide +kernel
theorem dX5_synchronize_32 : decode cX5_synchronize 32 = .ok (.invokevirtual 172, 3) := by decide +kernel
theorem dX5_synchronize_35 : decode cX5_synchronize 35 = .ok (.aload_n 0, 1) := by decide +kernel
theorem dX5_synchronize_36 : decode cX5_synchronize 36 = .ok (.lload_n 1, 1) := by decide +kernel
theorem dX5_synchronize_37 : decode cX5_synchronize 37 = .ok (.invokevirtual 176, 3) := by decide +kernel
theorem dX5_synchronize_40 : decode cX5_synchronize 40 = .ok (.istore_n 3, 1) := by decide +kernel
theorem dX5_synchronize_41 : decode cX5_synchronize 41 = .ok (.aload_n 0, 1) := by decide +kernel
theorem dX5_synchronize_42 : decode cX5_synchronize 42 = .ok (.invokevirtual 180, 3) := by decide +kernel
theorem dX5_synchronize_45 : decode cX5_synchronize 45 = .ok (.aload_n 0, 1) := by decide +kernel
theorem dX5_synchronize_46 : decode cX5_synchronize 46 = .ok (.invokevirtual 183, 3) := by decide +kernel
theorem dX5_synchronize_49 : decode cX5_synchronize 49 = .ok (.aload_n 0, 1) := by decide +kernel
theorem dX5_synchronize_50 : decode cX5_synchronize 50 = .ok (.aload_n 0, 1) := by decide +kernel
theorem dX5_synchronize_51 : decode cX5_synchronize 51 = .ok (.getfield 10, 3) := by decide +kernel
theorem dX5_synchronize_54 : decode cX5_synchronize 54 = .ok (.invokevirtual 60, 3) := by decide +kernel
theorem dX5_synchronize_57 : decode cX5_synchronize 57 = .ok (.putfield 186, 3) := by decide +kernel
theorem dX5_synchronize_60 : decode cX5_synchronize 60 = .ok (.aload_n 0, 1) := by decide +kernel
theorem dX5_synchronize_61 : decode cX5_synchronize 61 = .ok (.dup, 1) := by decide +kernel
theorem dX5_synchronize_62 : decode cX5_synchronize 62 = .ok (.getfield 189, 3) := by decide +kernel
theorem dX5_synchronize_65 : decode cX5_synchronize 65 = .ok (.iconst 1, 1) := by decide +kernel
theorem dX5_synchronize_66 : decode cX5_synchronize 66 = .ok (.iadd, 1) := by decide +kernel
theorem dX5_synchronize_67 : decode cX5_synchronize 67 = .ok (.putfield 189, 3) := by decide +kernel
theorem dX5_synchronize_70 : decode cX5_synchronize 70 = .ok (.iload_n 3, 1) := by decide +kernel
theorem dX5_synchronize_71 : decode cX5_synchronize 71 = .ok (.ireturn, 1) := by decide +kernel
theorem dX5_stratum_0 : decode cX5_stratum 0 = .ok (.aload_n 0, 1) := by decide +kernel
theorem dX5_stratum_1 : decode cX5_stratum 1 = .ok (.getfield 192, 3) := by decide +kernel
theorem dX5_stratum_4 : decode cX5_stratum 4 = .ok (.ireturn, 1) := by decide +kernel
theorem dX5_steps_0 : decode cX5_steps 0 = .ok (.aload_n 0, 1) := by decide +kernel
theorem dX5_steps_1 : decode cX5_steps 1 = .ok (.getfield 195, 3) := by decide +kernel
theorem dX5_steps_4 : decode cX5_steps 4 = .ok (.ireturn, 1) := by decide +kernel
theorem dX5_synchronizations_0 : decode cX5_synchronizations 0 = .ok (.aload_n 0, 1) := by decide +kernel
theorem dX5_synchronizations_1 : decode cX5_synchronizations 1 = .ok (.getfield 189, 3) := by decide +kernel
theorem dX5_synchronizations_4 : decode cX5_synchronizations 4 = .ok (.ireturn, 1) := by decide +kernel
theorem dX5_isWithin_0 : decode cX5_isWithin 0 = .ok (.iload_n 0, 1) := by decide +kernel
theorem dX5_isWithin_1 : decode cX5_isWithin 1 = .ok (.iload_n 1, 1) := by decide +kernel
theorem dX5_isWithin_2 : decode cX5_isWithin 2 = .ok (.if_icmp .lt 12, 3) := by decide +kernel
theorem dX5_isWithin_5 : decode cX5_isWithin 5 = .ok (.iload_n 0, 1) := by decide +kernel
theorem dX5_isWithin_6 : decode cX5_isWithin 6 = .ok (.iload_n 2, 1) := by decide +kernel
theorem dX5_isWithin_7 : decode cX5_isWithin 7 = .ok (.if_icmp .gt 7, 3) := by decide +kernel
theorem dX5_isWithin_10 : decode cX5_isWithin 10 = .ok (.iconst 1, 1) := by decide +kernel
theorem dX5_isWithin_11 : decode cX5_isWithin 11 = .ok (.goto 4, 3) := by decide +kernel
theorem dX5_isWithin_14 : decode cX5_isWithin 14 = .ok (.iconst 0, 1) := by decide +kernel
theorem dX5_isWithin_15 : decode cX5_isWithin 15 = .ok (.ireturn, 1) := by decide +kernel
theorem dX5_isServerError_0 : decode cX5_isServerError 0 = .ok (.iload_n 0, 1) := by decide +kernel
theorem dX5_isServerError_1 : decode cX5_isServerError 1 = .ok (.ldc 198, 2) := by decide +kernel
theorem dX5_isServerError_3 : decode cX5_isServerError 3 = .ok (.ldc 98, 2) := by decide +kernel
theorem dX5_isServerError_5 : decode cX5_isServerError 5 = .ok (.invokestatic 43, 3) := by decide +kernel
theorem dX5_isServerError_8 : decode cX5_isServerError 8 = .ok (.ireturn, 1) := by decide +kernel
theorem dX5_begin_0 : decode cX5_begin 0 = .ok (.aload_n 0, 1) := by decide +kernel
theorem dX5_begin_1 : decode cX5_begin 1 = .ok (.getfield 10, 3) := by decide +kernel
theorem dX5_begin_4 : decode cX5_begin 4 = .ok (.iload_n 1, 1) := by decide +kernel
theorem dX5_begin_5 : decode cX5_begin 5 = .ok (.invokevirtual 199, 3) := by decide +kernel
theorem dX5_begin_8 : decode cX5_begin 8 = .ok (.aload_n 0, 1) := by decide +kernel
theorem dX5_begin_9 : decode cX5_begin 9 = .ok (.getfield 19, 3) := by decide +kernel
theorem dX5_begin_12 : decode cX5_begin 12 = .ok (.invokevirtual 200, 3) := by decide +kernel
theorem dX5_begin_15 : decode cX5_begin 15 = .ok (.aload_n 0, 1) := by decide +kernel
theorem dX5_begin_16 : decode cX5_begin 16 = .ok (.iconst 0, 1) := by decide +kernel
theorem dX5_begin_17 : decode cX5_begin 17 = .ok (.putfield 99, 3) := by decide +kernel
theorem dX5_begin_20 : decode cX5_begin 20 = .ok (.aload_n 0, 1) := by decide +kernel
theorem dX5_begin_21 : decode cX5_begin 21 = .ok (.lconst 0, 1) := by decide +kernel
theorem dX5_begin_22 : decode cX5_begin 22 = .ok (.putfield 68, 3) := by decide +kernel
theorem dX5_begin_25 : decode cX5_begin 25 = .ok (.aload_n 0, 1) := by decide +kernel
theorem dX5_begin_26 : decode cX5_begin 26 = .ok (.bipush 16, 2) := by decide +kernel
theorem dX5_begin_28 : decode cX5_begin 28 = .ok (.putfield 192, 3) := by decide +kernel
theorem dX5_begin_31 : decode cX5_begin 31 = .ok (.aload_n 0, 1) := by decide +kernel
theorem dX5_begin_32 : decode cX5_begin 32 = .ok (.iconst 0, 1) := by decide +kernel
theorem dX5_begin_33 : decode cX5_begin 33 = .ok (.putfield 195, 3) := by decide +kernel
theorem dX5_begin_36 : decode cX5_begin 36 = .ok (.aload_n 0, 1) := by decide +kernel
theorem dX5_begin_37 : decode cX5_begin 37 = .ok (.iconst 0, 1) := by decide +kernel
theorem dX5_begin_38 : decode cX5_begin 38 = .ok (.putfield 189, 3) := by decide +kernel
theorem dX5_begin_41 : decode cX5_begin 41 = .ok (.aload_n 0, 1) := by decide +kernel
theorem dX5_begin_42 : decode cX5_begin 42 = .ok (.lconst 0, 1) := by decide +kernel
theorem dX5_begin_43 : decode cX5_begin 43 = .ok (.putfield 186, 3) := by decide +kernel
theorem dX5_begin_46 : decode cX5_begin 46 = .ok (.return_, 1) := by decide +kernel
theorem dX5_isBeyondLastTrueTime_0 : decode cX5_isBeyondLastTrueTime 0 = .ok (.aload_n 0, 1) := by decide +kernel
theorem dX5_isBeyondLastTrueTime_1 : decode cX5_isBeyondLastTrueTime 1 = .ok (.getfield 68, 3) := by decide +kernel
theorem dX5_isBeyondLastTrueTime_4 : decode cX5_isBeyondLastTrueTime 4 = .ok (.lload_n 1, 1) := by decide +kernel
theorem dX5_isBeyondLastTrueTime_5 : decode cX5_isBeyondLastTrueTime 5 = .ok (.ladd, 1) := by decide +kernel
theorem dX5_isBeyondLastTrueTime_6 : decode cX5_isBeyondLastTrueTime 6 = .ok (.ldc2_w 203, 3) := by decide +kernel
theorem dX5_isBeyondLastTrueTime_9 : decode cX5_isBeyondLastTrueTime 9 = .ok (.lcmp, 1) := by decide +kernel
theorem dX5_isBeyondLastTrueTime_10 : decode cX5_isBeyondLastTrueTime 10 = .ok (.ifCond .le 7, 3) := by decide +kernel
theorem dX5_isBeyondLastTrueTime_13 : decode cX5_isBeyondLastTrueTime 13 = .ok (.iconst 1, 1) := by decide +kernel
theorem dX5_isBeyondLastTrueTime_14 : decode cX5_isBeyondLastTrueTime 14 = .ok (.goto 4, 3) := by decide +kernel
theorem dX5_isBeyondLastTrueTime_17 : decode cX5_isBeyondLastTrueTime 17 = .ok (.iconst 0, 1) := by decide +kernel
theorem dX5_isBeyondLastTrueTime_18 : decode cX5_isBeyondLastTrueTime 18 = .ok (.ireturn, 1) := by decide +kernel
theorem dX5_elapse_0 : decode cX5_elapse 0 = .ok (.aload_n 0, 1) := by decide +kernel
theorem dX5_elapse_1 : decode cX5_elapse 1 = .ok (.dup, 1) := by decide +kernel
theorem dX5_elapse_2 : decode cX5_elapse 2 = .ok (.getfield 68, 3) := by decide +kernel
theorem dX5_elapse_5 : decode cX5_elapse 5 = .ok (.iload_n 1, 1) := by decide +kernel
theorem dX5_elapse_6 : decode cX5_elapse 6 = .ok (.i2l, 1) := by decide +kernel
theorem dX5_elapse_7 : decode cX5_elapse 7 = .ok (.ladd, 1) := by decide +kernel
theorem dX5_elapse_8 : decode cX5_elapse 8 = .ok (.putfield 68, 3) := by decide +kernel
theorem dX5_elapse_11 : decode cX5_elapse 11 = .ok (.aload_n 0, 1) := by decide +kernel
theorem dX5_elapse_12 : decode cX5_elapse 12 = .ok (.getfield 10, 3) := by decide +kernel
theorem dX5_elapse_15 : decode cX5_elapse 15 = .ok (.iload_n 1, 1) := by decide +kernel
theorem dX5_elapse_16 : decode cX5_elapse 16 = .ok (.invokevirtual 205, 3) := by decide +kernel
theorem dX5_elapse_19 : decode cX5_elapse 19 = .ok (.return_, 1) := by decide +kernel
theorem dX5_roomOrNull_0 : decode cX5_roomOrNull 0 = .ok (.iload_n 1, 1) := by decide +kernel
theorem dX5_roomOrNull_1 : decode cX5_roomOrNull 1 = .ok (.ifCond .lt 21, 3) := by decide +kernel
theorem dX5_roomOrNull_4 : decode cX5_roomOrNull 4 = .ok (.iload_n 1, 1) := by decide +kernel
theorem dX5_roomOrNull_5 : decode cX5_roomOrNull 5 = .ok (.aload_n 0, 1) := by decide +kernel
theorem dX5_roomOrNull_6 : decode cX5_roomOrNull 6 = .ok (.getfield 25, 3) := by decide +kernel
theorem dX5_roomOrNull_9 : decode cX5_roomOrNull 9 = .ok (.arraylength, 1) := by decide +kernel
theorem dX5_roomOrNull_10 : decode cX5_roomOrNull 10 = .ok (.if_icmp .ge 12, 3) := by decide +kernel
theorem dX5_roomOrNull_13 : decode cX5_roomOrNull 13 = .ok (.aload_n 0, 1) := by decide +kernel
theorem dX5_roomOrNull_14 : decode cX5_roomOrNull 14 = .ok (.getfield 25, 3) := by decide +kernel
theorem dX5_roomOrNull_17 : decode cX5_roomOrNull 17 = .ok (.iload_n 1, 1) := by decide +kernel
theorem dX5_roomOrNull_18 : decode cX5_roomOrNull 18 = .ok (.aaload, 1) := by decide +kernel
theorem dX5_roomOrNull_19 : decode cX5_roomOrNull 19 = .ok (.goto 4, 3) := by decide +kernel
theorem dX5_roomOrNull_22 : decode cX5_roomOrNull 22 = .ok (.aconst_null, 1) := by decide +kernel
theorem dX5_roomOrNull_23 : decode cX5_roomOrNull 23 = .ok (.areturn, 1) := by decide +kernel
theorem dX5_serverOrNull_0 : decode cX5_serverOrNull 0 = .ok (.iload_n 1, 1) := by decide +kernel
theorem dX5_serverOrNull_1 : decode cX5_serverOrNull 1 = .ok (.aload_n 0, 1) := by decide +kernel
theorem dX5_serverOrNull_2 : decode cX5_serverOrNull 2 = .ok (.getfield 99, 3) := by decide +kernel
theorem dX5_serverOrNull_5 : decode cX5_serverOrNull 5 = .ok (.if_icmp .ge 11, 3) := by decide +kernel
theorem dX5_serverOrNull_8 : decode cX5_serverOrNull 8 = .ok (.aload_n 0, 1) := by decide +kernel
theorem dX5_serverOrNull_9 : decode cX5_serverOrNull 9 = .ok (.iload_n 1, 1) := by decide +kernel
theorem dX5_serverOrNull_10 : decode cX5_serverOrNull 10 = .ok (.invokevirtual 103, 3) := by decide +kernel
theorem dX5_serverOrNull_13 : decode cX5_serverOrNull 13 = .ok (.goto 4, 3) := by decide +kernel
theorem dX5_serverOrNull_16 : decode cX5_serverOrNull 16 = .ok (.aconst_null, 1) := by decide +kernel
theorem dX5_serverOrNull_17 : decode cX5_serverOrNull 17 = .ok (.areturn, 1) := by decide +kernel
theorem dX5_knownServer_0 : decode cX5_knownServer 0 = .ok (.aload_n 0, 1) := by decide +kernel
theorem dX5_knownServer_1 : decode cX5_knownServer 1 = .ok (.iload_n 1, 1) := by decide +kernel
theorem dX5_knownServer_2 : decode cX5_knownServer 2 = .ok (.invokevirtual 206, 3) := by decide +kernel
theorem dX5_knownServer_5 : decode cX5_knownServer 5 = .ok (.astore_n 2, 1) := by decide +kernel
theorem dX5_knownServer_6 : decode cX5_knownServer 6 = .ok (.aload_n 2, 1) := by decide +kernel
theorem dX5_knownServer_7 : decode cX5_knownServer 7 = .ok (.ifnonnull 11, 3) := by decide +kernel
theorem dX5_knownServer_10 : decode cX5_knownServer 10 = .ok (.new 209, 3) := by decide +kernel
theorem dX5_knownServer_13 : decode cX5_knownServer 13 = .ok (.dup, 1) := by decide +kernel
theorem dX5_knownServer_14 : decode cX5_knownServer 14 = .ok (.invokespecial 211, 3) := by decide +kernel
theorem dX5_knownServer_17 : decode cX5_knownServer 17 = .ok (.athrow, 1) := by decide +kernel
theorem dX5_knownServer_18 : decode cX5_knownServer 18 = .ok (.aload_n 2, 1) := by decide +kernel
theorem dX5_knownServer_19 : decode cX5_knownServer 19 = .ok (.areturn, 1) := by decide +kernel
theorem dX5_heardServer_0 : decode cX5_heardServer 0 = .ok (.aload_n 0, 1) := by decide +kernel
theorem dX5_heardServer_1 : decode cX5_heardServer 1 = .ok (.iload_n 1, 1) := by decide +kernel
theorem dX5_heardServer_2 : decode cX5_heardServer 2 = .ok (.invokevirtual 111, 3) := by decide +kernel
theorem dX5_heardServer_5 : decode cX5_heardServer 5 = .ok (.astore_n 2, 1) := by decide +kernel
theorem dX5_heardServer_6 : decode cX5_heardServer 6 = .ok (.aload_n 2, 1) := by decide +kernel
theorem dX5_heardServer_7 : decode cX5_heardServer 7 = .ok (.invokevirtual 123, 3) := by decide +kernel
theorem dX5_heardServer_10 : decode cX5_heardServer 10 = .ok (.ifCond .ne 11, 3) := by decide +kernel
theorem dX5_heardServer_13 : decode cX5_heardServer 13 = .ok (.new 54, 3) := by decide +kernel
theorem dX5_heardServer_16 : decode cX5_heardServer 16 = .ok (.dup, 1) := by decide +kernel
theorem dX5_heardServer_17 : decode cX5_heardServer 17 = .ok (.invokespecial 56, 3) := by decide +kernel
theorem dX5_heardServer_20 : decode cX5_heardServer 20 = .ok (.athrow, 1) := by decide +kernel
theorem dX5_heardServer_21 : decode cX5_heardServer 21 = .ok (.aload_n 2, 1) := by decide +kernel
theorem dX5_heardServer_22 : decode cX5_heardServer 22 = .ok (.areturn, 1) := by decide +kernel
theorem dX5_takeSample_0 : decode cX5_takeSample 0 = .ok (.aload_n 0, 1) := by decide +kernel
theorem dX5_takeSample_1 : decode cX5_takeSample 1 = .ok (.getfield 10, 3) := by decide +kernel
theorem dX5_takeSample_4 : decode cX5_takeSample 4 = .ok (.invokevirtual 60, 3) := by decide +kernel
theorem dX5_takeSample_7 : decode cX5_takeSample 7 = .ok (.lstore 5, 2) := by decide +kernel
theorem dX5_takeSample_9 : decode cX5_takeSample 9 = .ok (.aload_n 0, 1) := by decide +kernel
theorem dX5_takeSample_10 : decode cX5_takeSample 10 = .ok (.iload_n 2, 1) := by decide +kernel
theorem dX5_takeSample_11 : decode cX5_takeSample 11 = .ok (.invokevirtual 57, 3) := by decide +kernel
theorem dX5_takeSample_14 : decode cX5_takeSample 14 = .ok (.aload_n 1, 1) := by decide +kernel
theorem dX5_takeSample_15 : decode cX5_takeSample 15 = .ok (.aload_n 0, 1) := by decide +kernel
theorem dX5_takeSample_16 : decode cX5_takeSample 16 = .ok (.getfield 68, 3) := by decide +kernel
theorem dX5_takeSample_19 : decode cX5_takeSample 19 = .ok (.invokevirtual 212, 3) := by decide +kernel
theorem dX5_takeSample_22 : decode cX5_takeSample 22 = .ok (.lstore 7, 2) := by decide +kernel
theorem dX5_takeSample_24 : decode cX5_takeSample 24 = .ok (.aload_n 0, 1) := by decide +kernel
theorem dX5_takeSample_25 : decode cX5_takeSample 25 = .ok (.iload_n 3, 1) := by decide +kernel
theorem dX5_takeSample_26 : decode cX5_takeSample 26 = .ok (.invokevirtual 57, 3) := by decide +kernel
theorem dX5_takeSample_29 : decode cX5_takeSample 29 = .ok (.aload_n 1, 1) := by decide +kernel
theorem dX5_takeSample_30 : decode cX5_takeSample 30 = .ok (.aload_n 0, 1) := by decide +kernel
theorem dX5_takeSample_31 : decode cX5_takeSample 31 = .ok (.getfield 68, 3) := by decide +kernel
theorem dX5_takeSample_34 : decode cX5_takeSample 34 = .ok (.invokevirtual 212, 3) := by decide +kernel
theorem dX5_takeSample_37 : decode cX5_takeSample 37 = .ok (.lstore 9, 2) := by decide +kernel
theorem dX5_takeSample_39 : decode cX5_takeSample 39 = .ok (.aload_n 0, 1) := by decide +kernel
theorem dX5_takeSample_40 : decode cX5_takeSample 40 = .ok (.iload 4, 2) := by decide +kernel
theorem dX5_takeSample_42 : decode cX5_takeSample 42 = .ok (.invokevirtual 57, 3) := by decide +kernel
theorem dX5_takeSample_45 : decode cX5_takeSample 45 = .ok (.aload_n 0, 1) := by decide +kernel
theorem dX5_takeSample_46 : decode cX5_takeSample 46 = .ok (.getfield 10, 3) := by decide +kernel
theorem dX5_takeSample_49 : decode cX5_takeSample 49 = .ok (.invokevirtual 60, 3) := by decide +kernel
theorem dX5_takeSample_52 : decode cX5_takeSample 52 = .ok (.lstore 11, 2) := by decide +kernel
theorem dX5_takeSample_54 : decode cX5_takeSample 54 = .ok (.lload 7, 2) := by decide +kernel
theorem dX5_takeSample_56 : decode cX5_takeSample 56 = .ok (.lload 5, 2) := by decide +kernel
theorem dX5_takeSample_58 : decode cX5_takeSample 58 = .ok (.lsub, 1) := by decide +kernel
theorem dX5_takeSample_59 : decode cX5_takeSample 59 = .ok (.lload 9, 2) := by decide +kernel
theorem dX5_takeSample_61 : decode cX5_takeSample 61 = .ok (.lload 11, 2) := by decide +kernel
theorem dX5_takeSample_63 : decode cX5_takeSample 63 = .ok (.lsub, 1) := by decide +kernel
theorem dX5_takeSample_64 : decode cX5_takeSample 64 = .ok (.ladd, 1) := by decide +kernel
theorem dX5_takeSample_65 : decode cX5_takeSample 65 = .ok (.ldc2_w 215, 3) := by decide +kernel
theorem dX5_takeSample_68 : decode cX5_takeSample 68 = .ok (.invokestatic 217, 3) := by decide +kernel
theorem dX5_takeSample_71 : decode cX5_takeSample 71 = .ok (.lstore 13, 2) := by decide +kernel
theorem dX5_takeSample_73 : decode cX5_takeSample 73 = .ok (.lconst 0, 1) := by decide +kernel
theorem dX5_takeSample_74 : decode cX5_takeSample 74 = .ok (.lload 11, 2) := by decide +kernel
theorem dX5_takeSample_76 : decode cX5_takeSample 76 = .ok (.lload 5, 2) := by decide +kernel
theorem dX5_takeSample_78 : decode cX5_takeSample 78 = .ok (.lsub, 1) := by decide +kernel
theorem dX5_takeSample_79 : decode cX5_takeSample 79 = .ok (.lload 9, 2) := by decide +kernel
theorem dX5_takeSample_81 : decode cX5_takeSample 81 = .ok (.lload 7, 2) := by decide +kernel
theorem dX5_takeSample_83 : decode cX5_takeSample 83 = .ok (.lsub, 1) := by decide +kernel
theorem dX5_takeSample_84 : decode cX5_takeSample 84 = .ok (.lsub, 1) := by decide +kernel
theorem dX5_takeSample_85 : decode cX5_takeSample 85 = .ok (.invokestatic 223, 3) := by decide +kernel
theorem dX5_takeSample_88 : decode cX5_takeSample 88 = .ok (.lstore 15, 2) := by decide +kernel
theorem dX5_takeSample_90 : decode cX5_takeSample 90 = .ok (.aload_n 1, 1) := by decide +kernel
theorem dX5_takeSample_91 : decode cX5_takeSample 91 = .ok (.lload 13, 2) := by decide +kernel
theorem dX5_takeSample_93 : decode cX5_takeSample 93 = .ok (.lload 15, 2) := by decide +kernel
theorem dX5_takeSample_95 : decode cX5_takeSample 95 = .ok (.lload 11, 2) := by decide +kernel
theorem dX5_takeSample_97 : decode cX5_takeSample 97 = .ok (.invokevirtual 226, 3) := by decide +kernel
theorem dX5_takeSample_100 : decode cX5_takeSample 100 = .ok (.lload 15, 2) := by decide +kernel
theorem dX5_takeSample_102 : decode cX5_takeSample 102 = .ok (.lreturn, 1) := by decide +kernel
theorem dX5_select_0 : decode cX5_select 0 = .ok (.aload_n 0, 1) := by decide +kernel
theorem dX5_select_1 : decode cX5_select 1 = .ok (.getfield 10, 3) := by decide +kernel
theorem dX5_select_4 : decode cX5_select 4 = .ok (.invokevirtual 60, 3) := by decide +kernel
theorem dX5_select_7 : decode cX5_select 7 = .ok (.lstore_n 1, 1) := by decide +kernel
theorem dX5_select_8 : decode cX5_select 8 = .ok (.aload_n 0, 1) := by decide +kernel
theorem dX5_select_9 : decode cX5_select 9 = .ok (.getfield 32, 3) := by decide +kernel
theorem dX5_select_12 : decode cX5_select 12 = .ok (.invokevirtual 230, 3) := by decide +kernel
theorem dX5_select_15 : decode cX5_select 15 = .ok (.iconst 0, 1) := by decide +kernel
theorem dX5_select_16 : decode cX5_select 16 = .ok (.istore_n 3, 1) := by decide +kernel
theorem dX5_select_17 : decode cX5_select 17 = .ok (.iload_n 3, 1) := by decide +kernel
theorem dX5_select_18 : decode cX5_select 18 = .ok (.aload_n 0, 1) := by decide +kernel
theorem dX5_select_19 : decode cX5_select 19 = .ok (.getfield 99, 3) := by decide +kernel
theorem dX5_select_22 : decode cX5_select 22 = .ok (.if_icmp .ge 46, 3) := by decide +kernel
theorem dX5_select_25 : decode cX5_select 25 = .ok (.iload_n 3, 1) := by decide +kernel
theorem dX5_select_26 : decode cX5_select 26 = .ok (.bipush 8, 2) := by decide +kernel
theorem dX5_select_28 : decode cX5_select 28 = .ok (.if_icmp .ge 40, 3) := by decide +kernel
theorem dX5_select_31 : decode cX5_select 31 = .ok (.aload_n 0, 1) := by decide +kernel
theorem dX5_select_32 : decode cX5_select 32 = .ok (.iload_n 3, 1) := by decide +kernel
theorem dX5_select_33 : decode cX5_select 33 = .ok (.invokevirtual 206, 3) := by decide +kernel
theorem dX5_select_36 : decode cX5_select 36 = .ok (.astore 4, 2) := by decide +kernel
theorem dX5_select_38 : decode cX5_select 38 = .ok (.aload 4, 2) := by decide +kernel
theorem dX5_select_40 : decode cX5_select 40 = .ok (.ifnull 22, 3) := by decide +kernel
theorem dX5_select_43 : decode cX5_select 43 = .ok (.aload 4, 2) := by decide +kernel
theorem dX5_select_45 : decode cX5_select 45 = .ok (.invokevirtual 123, 3) := by decide +kernel
theorem dX5_select_48 : decode cX5_select 48 = .ok (.ifCond .le 14, 3) := by decide +kernel
theorem dX5_select_51 : decode cX5_select 51 = .ok (.aload_n 0, 1) := by decide +kernel
theorem dX5_select_52 : decode cX5_select 52 = .ok (.getfield 32, 3) := by decide +kernel
theorem dX5_select_55 : decode cX5_select 55 = .ok (.iload_n 3, 1) := by decide +kernel
theorem dX5_select_56 : decode cX5_select 56 = .ok (.aload 4, 2) := by decide +kernel
theorem dX5_select_58 : decode cX5_select 58 = .ok (.lload_n 1, 1) := by decide +kernel
theorem dX5_select_59 : decode cX5_select 59 = .ok (.invokevirtual 231, 3) := by decide +kernel
theorem dX5_select_62 : decode cX5_select 62 = .ok (.iinc 3 1, 3) := by decide +kernel
theorem dX5_select_65 : decode cX5_select 65 = .ok (.goto (-48), 3) := by decide +kernel
theorem dX5_select_68 : decode cX5_select 68 = .ok (.aload_n 0, 1) := by decide +kernel
theorem dX5_select_69 : decode cX5_select 69 = .ok (.getfield 32, 3) := by decide +kernel
theorem dX5_select_72 : decode cX5_select 72 = .ok (.invokevirtual 235, 3) := by decide +kernel
theorem dX5_select_75 : decode cX5_select 75 = .ok (.aload_n 0, 1) := by decide +kernel
theorem dX5_select_76 : decode cX5_select 76 = .ok (.getfield 32, 3) := by decide +kernel
theorem dX5_select_79 : decode cX5_select 79 = .ok (.invokevirtual 238, 3) := by decide +kernel
theorem dX5_select_82 : decode cX5_select 82 = .ok (.return_, 1) := by decide +kernel
theorem dX5_selectFromSome_0 : decode cX5_selectFromSome 0 = .ok (.aload_n 0, 1) := by decide +kernel
theorem dX5_selectFromSome_1 : decode cX5_selectFromSome 1 = .ok (.invokevirtual 141, 3) := by decide +kernel
theorem dX5_selectFromSome_4 : decode cX5_selectFromSome 4 = .ok (.aload_n 0, 1) := by decide +kernel
theorem dX5_selectFromSome_5 : decode cX5_selectFromSome 5 = .ok (.getfield 32, 3) := by decide +kernel
theorem dX5_selectFromSome_8 : decode cX5_selectFromSome 8 = .ok (.invokevirtual 241, 3) := by decide +kernel
theorem dX5_selectFromSome_11 : decode cX5_selectFromSome 11 = .ok (.ifCond .eq 11, 3) := by decide +kernel
theorem dX5_selectFromSome_14 : decode cX5_selectFromSome 14 = .ok (.new 54, 3) := by decide +kernel
theorem dX5_selectFromSome_17 : decode cX5_selectFromSome 17 = .ok (.dup, 1) := by decide +kernel
theorem dX5_selectFromSome_18 : decode cX5_selectFromSome 18 = .ok (.invokespecial 56, 3) := by decide +kernel
theorem dX5_selectFromSome_21 : decode cX5_selectFromSome 21 = .ok (.athrow, 1) := by decide +kernel
theorem dX5_selectFromSome_22 : decode cX5_selectFromSome 22 = .ok (.return_, 1) := by decide +kernel
theorem dX5_correctRate_0 : decode cX5_correctRate 0 = .ok (.aload_n 0, 1) := by decide +kernel
theorem dX5_correctRate_1 : decode cX5_correctRate 1 = .ok (.getfield 10, 3) := by decide +kernel
theorem dX5_correctRate_4 : decode cX5_correctRate 4 = .ok (.invokevirtual 60, 3) := by decide +kernel
theorem dX5_correctRate_7 : decode cX5_correctRate 7 = .ok (.aload_n 0, 1) := by decide +kernel
theorem dX5_correctRate_8 : decode cX5_correctRate 8 = .ok (.getfield 186, 3) := by decide +kernel
theorem dX5_correctRate_11 : decode cX5_correctRate 11 = .ok (.lsub, 1) := by decide +kernel
theorem dX5_correctRate_12 : decode cX5_correctRate 12 = .ok (.lstore_n 3, 1) := by decide +kernel
theorem dX5_correctRate_13 : decode cX5_correctRate 13 = .ok (.aload_n 0, 1) := by decide +kernel
theorem dX5_correctRate_14 : decode cX5_correctRate 14 = .ok (.getfield 189, 3) := by decide +kernel
theorem dX5_correctRate_17 : decode cX5_correctRate 17 = .ok (.ifCond .le 31, 3) := by decide +kernel
theorem dX5_correctRate_20 : decode cX5_correctRate 20 = .ok (.lload_n 3, 1) := by decide +kernel
theorem dX5_correctRate_21 : decode cX5_correctRate 21 = .ok (.lconst 0, 1) := by decide +kernel
theorem dX5_correctRate_22 : decode cX5_correctRate 22 = .ok (.lcmp, 1) := by decide +kernel
theorem dX5_correctRate_23 : decode cX5_correctRate 23 = .ok (.ifCond .le 25, 3) := by decide +kernel
theorem dX5_correctRate_26 : decode cX5_correctRate 26 = .ok (.lload_n 1, 1) := by decide +kernel
theorem dX5_correctRate_27 : decode cX5_correctRate 27 = .ok (.ldc2_w 244, 3) := by decide +kernel
theorem dX5_correctRate_30 : decode cX5_correctRate 30 = .ok (.lmul, 1) := by decide +kernel
theorem dX5_correctRate_31 : decode cX5_correctRate 31 = .ok (.lload_n 3, 1) := by decide +kernel
theorem dX5_correctRate_32 : decode cX5_correctRate 32 = .ok (.ldiv, 1) := by decide +kernel
theorem dX5_correctRate_33 : decode cX5_correctRate 33 = .ok (.lstore 5, 2) := by decide +kernel
theorem dX5_correctRate_35 : decode cX5_correctRate 35 = .ok (.aload_n 0, 1) := by decide +kernel
theorem dX5_correctRate_36 : decode cX5_correctRate 36 = .ok (.getfield 10, 3) := by decide +kernel
theorem dX5_correctRate_39 : decode cX5_correctRate 39 = .ok (.lload 5, 2) := by decide +kernel
theorem dX5_correctRate_41 : decode cX5_correctRate 41 = .ok (.ldc2_w 246, 3) := by decide +kernel
theorem dX5_correctRate_44 : decode cX5_correctRate 44 = .ok (.ldiv, 1) := by decide +kernel
theorem dX5_correctRate_45 : decode cX5_correctRate 45 = .ok (.invokevirtual 248, 3) := by decide +kernel
theorem dX5_correctRate_48 : decode cX5_correctRate 48 = .ok (.return_, 1) := by decide +kernel
theorem dX5_correctTime_0 : decode cX5_correctTime 0 = .ok (.lload_n 1, 1) := by decide +kernel
theorem dX5_correctTime_1 : decode cX5_correctTime 1 = .ok (.ldc2_w 251, 3) := by decide +kernel
theorem dX5_correctTime_4 : decode cX5_correctTime 4 = .ok (.lcmp, 1) := by decide +kernel
theorem dX5_correctTime_5 : decode cX5_correctTime 5 = .ok (.ifCond .le 23, 3) := by decide +kernel
theorem dX5_correctTime_8 : decode cX5_correctTime 8 = .ok (.aload_n 0, 1) := by decide +kernel
theorem dX5_correctTime_9 : decode cX5_correctTime 9 = .ok (.getfield 10, 3) := by decide +kernel
theorem dX5_correctTime_12 : decode cX5_correctTime 12 = .ok (.lload_n 1, 1) := by decide +kernel
theorem dX5_correctTime_13 : decode cX5_correctTime 13 = .ok (.invokevirtual 253, 3) := by decide +kernel
theorem dX5_correctTime_16 : decode cX5_correctTime 16 = .ok (.aload_n 0, 1) := by decide +kernel
theorem dX5_correctTime_17 : decode cX5_correctTime 17 = .ok (.dup, 1) := by decide +kernel
theorem dX5_correctTime_18 : decode cX5_correctTime 18 = .ok (.getfield 195, 3) := by decide +kernel
theorem dX5_correctTime_21 : decode cX5_correctTime 21 = .ok (.iconst 1, 1) := by decide +kernel
theorem dX5_correctTime_22 : decode cX5_correctTime 22 = .ok (.iadd, 1) := by decide +kernel
theorem dX5_correctTime_23 : decode cX5_correctTime 23 = .ok (.putfield 195, 3) := by decide +kernel
theorem dX5_correctTime_26 : decode cX5_correctTime 26 = .ok (.iconst 1, 1) := by decide +kernel
theorem dX5_correctTime_27 : decode cX5_correctTime 27 = .ok (.ireturn, 1) := by decide +kernel
theorem dX5_correctTime_28 : decode cX5_correctTime 28 = .ok (.aload_n 0, 1) := by decide +kernel
theorem dX5_correctTime_29 : decode cX5_correctTime 29 = .ok (.getfield 10, 3) := by decide +kernel
theorem dX5_correctTime_32 : decode cX5_correctTime 32 = .ok (.lload_n 1, 1) := by decide +kernel
theorem dX5_correctTime_33 : decode cX5_correctTime 33 = .ok (.invokevirtual 256, 3) := by decide +kernel
theorem dX5_correctTime_36 : decode cX5_correctTime 36 = .ok (.iconst 0, 1) := by decide +kernel
theorem dX5_correctTime_37 : decode cX5_correctTime 37 = .ok (.ireturn, 1) := by decide +kernel
theorem dX5_takeStratumOfPeer_0 : decode cX5_takeStratumOfPeer 0 = .ok (.aload_n 0, 1) := by decide +kernel
theorem dX5_takeStratumOfPeer_1 : decode cX5_takeStratumOfPeer 1 = .ok (.invokevirtual 141, 3) := by decide +kernel
theorem dX5_takeStratumOfPeer_4 : decode cX5_takeStratumOfPeer 4 = .ok (.aload_n 0, 1) := by decide +kernel
theorem dX5_takeStratumOfPeer_5 : decode cX5_takeStratumOfPeer 5 = .ok (.aload_n 0, 1) := by decide +kernel
theorem dX5_takeStratumOfPeer_6 : decode cX5_takeStratumOfPeer 6 = .ok (.getfield 32, 3) := by decide +kernel
theorem dX5_takeStratumOfPeer_9 : decode cX5_takeStratumOfPeer 9 = .ok (.invokevirtual 169, 3) := by decide +kernel
theorem dX5_takeStratumOfPeer_12 : decode cX5_takeStratumOfPeer 12 = .ok (.invokevirtual 206, 3) := by decide +kernel
theorem dX5_takeStratumOfPeer_15 : decode cX5_takeStratumOfPeer 15 = .ok (.astore_n 1, 1) := by decide +kernel
theorem dX5_takeStratumOfPeer_16 : decode cX5_takeStratumOfPeer 16 = .ok (.aload_n 1, 1) := by decide +kernel
theorem dX5_takeStratumOfPeer_17 : decode cX5_takeStratumOfPeer 17 = .ok (.ifnull 13, 3) := by decide +kernel
theorem dX5_takeStratumOfPeer_20 : decode cX5_takeStratumOfPeer 20 = .ok (.aload_n 0, 1) := by decide +kernel
theorem dX5_takeStratumOfPeer_21 : decode cX5_takeStratumOfPeer 21 = .ok (.aload_n 1, 1) := by decide +kernel
theorem dX5_takeStratumOfPeer_22 : decode cX5_takeStratumOfPeer 22 = .ok (.invokevirtual 259, 3) := by decide +kernel
theorem dX5_takeStratumOfPeer_25 : decode cX5_takeStratumOfPeer 25 = .ok (.iconst 1, 1) := by decide +kernel
theorem dX5_takeStratumOfPeer_26 : decode cX5_takeStratumOfPeer 26 = .ok (.iadd, 1) := by decide +kernel
theorem dX5_takeStratumOfPeer_27 : decode cX5_takeStratumOfPeer 27 = .ok (.putfield 192, 3) := by decide +kernel
theorem dX5_takeStratumOfPeer_30 : decode cX5_takeStratumOfPeer 30 = .ok (.return_, 1) := by decide +kernel
theorem dX5_forgetSamples_0 : decode cX5_forgetSamples 0 = .ok (.iconst 0, 1) := by decide +kernel
theorem dX5_forgetSamples_1 : decode cX5_forgetSamples 1 = .ok (.istore_n 1, 1) := by decide +kernel
theorem dX5_forgetSamples_2 : decode cX5_forgetSamples 2 = .ok (.iload_n 1, 1) := by decide +kernel
theorem dX5_forgetSamples_3 : decode cX5_forgetSamples 3 = .ok (.aload_n 0, 1) := by decide +kernel
theorem dX5_forgetSamples_4 : decode cX5_forgetSamples 4 = .ok (.getfield 25, 3) := by decide +kernel
theorem dX5_forgetSamples_7 : decode cX5_forgetSamples 7 = .ok (.arraylength, 1) := by decide +kernel
theorem dX5_forgetSamples_8 : decode cX5_forgetSamples 8 = .ok (.if_icmp .ge 24, 3) := by decide +kernel
theorem dX5_forgetSamples_11 : decode cX5_forgetSamples 11 = .ok (.aload_n 0, 1) := by decide +kernel
theorem dX5_forgetSamples_12 : decode cX5_forgetSamples 12 = .ok (.getfield 25, 3) := by decide +kernel
theorem dX5_forgetSamples_15 : decode cX5_forgetSamples 15 = .ok (.iload_n 1, 1) := by decide +kernel
theorem dX5_forgetSamples_16 : decode cX5_forgetSamples 16 = .ok (.aaload, 1) := by decide +kernel
theorem dX5_forgetSamples_17 : decode cX5_forgetSamples 17 = .ok (.astore_n 2, 1) := by decide +kernel
theorem dX5_forgetSamples_18 : decode cX5_forgetSamples 18 = .ok (.aload_n 2, 1) := by decide +kernel
theorem dX5_forgetSamples_19 : decode cX5_forgetSamples 19 = .ok (.ifnull 7, 3) := by decide +kernel
theorem dX5_forgetSamples_22 : decode cX5_forgetSamples 22 = .ok (.aload_n 2, 1) := by decide +kernel
theorem dX5_forgetSamples_23 : decode cX5_forgetSamples 23 = .ok (.invokevirtual 262, 3) := by decide +kernel
theorem dX5_forgetSamples_26 : decode cX5_forgetSamples 26 = .ok (.iinc 1 1, 3) := by decide +kernel
theorem dX5_forgetSamples_29 : decode cX5_forgetSamples 29 = .ok (.goto (-27), 3) := by decide +kernel
theorem dX5_forgetSamples_32 : decode cX5_forgetSamples 32 = .ok (.return_, 1) := by decide +kernel
theorem dJ6_bitCount_0f7a4_0 : decode cJ6_bitCount_0f7a4 0 = .ok (.iload_n 0, 1) := by decide +kernel
theorem dJ6_bitCount_0f7a4_1 : decode cJ6_bitCount_0f7a4 1 = .ok (.iload_n 0, 1) := by decide +kernel
theorem dJ6_bitCount_0f7a4_2 : decode cJ6_bitCount_0f7a4 2 = .ok (.iconst 1, 1) := by decide +kernel
theorem dJ6_bitCount_0f7a4_3 : decode cJ6_bitCount_0f7a4 3 = .ok (.iushr, 1) := by decide +kernel
theorem dJ6_bitCount_0f7a4_4 : decode cJ6_bitCount_0f7a4 4 = .ok (.ldc_w 265, 3) := by decide +kernel
theorem dJ6_bitCount_0f7a4_7 : decode cJ6_bitCount_0f7a4 7 = .ok (.iand, 1) := by decide +kernel
theorem dJ6_bitCount_0f7a4_8 : decode cJ6_bitCount_0f7a4 8 = .ok (.isub, 1) := by decide +kernel
theorem dJ6_bitCount_0f7a4_9 : decode cJ6_bitCount_0f7a4 9 = .ok (.istore_n 0, 1) := by decide +kernel
theorem dJ6_bitCount_0f7a4_10 : decode cJ6_bitCount_0f7a4 10 = .ok (.iload_n 0, 1) := by decide +kernel
theorem dJ6_bitCount_0f7a4_11 : decode cJ6_bitCount_0f7a4 11 = .ok (.ldc_w 266, 3) := by decide +kernel
theorem dJ6_bitCount_0f7a4_14 : decode cJ6_bitCount_0f7a4 14 = .ok (.iand, 1) := by decide +kernel
theorem dJ6_bitCount_0f7a4_15 : decode cJ6_bitCount_0f7a4 15 = .ok (.iload_n 0, 1) := by decide +kernel
theorem dJ6_bitCount_0f7a4_16 : decode cJ6_bitCount_0f7a4 16 = .ok (.iconst 2, 1) := by decide +kernel
theorem dJ6_bitCount_0f7a4_17 : decode cJ6_bitCount_0f7a4 17 = .ok (.iushr, 1) := by decide +kernel
theorem dJ6_bitCount_0f7a4_18 : decode cJ6_bitCount_0f7a4 18 = .ok (.ldc_w 266, 3) := by decide +kernel
theorem dJ6_bitCount_0f7a4_21 : decode cJ6_bitCount_0f7a4 21 = .ok (.iand, 1) := by decide +kernel
theorem dJ6_bitCount_0f7a4_22 : decode cJ6_bitCount_0f7a4 22 = .ok (.iadd, 1) := by decide +kernel
theorem dJ6_bitCount_0f7a4_23 : decode cJ6_bitCount_0f7a4 23 = .ok (.istore_n 0, 1) := by decide +kernel
theorem dJ6_bitCount_0f7a4_24 : decode cJ6_bitCount_0f7a4 24 = .ok (.iload_n 0, 1) := by decide +kernel
theorem dJ6_bitCount_0f7a4_25 : decode cJ6_bitCount_0f7a4 25 = .ok (.iload_n 0, 1) := by decide +kernel
theorem dJ6_bitCount_0f7a4_26 : decode cJ6_bitCount_0f7a4 26 = .ok (.iconst 4, 1) := by decide +kernel
theorem dJ6_bitCount_0f7a4_27 : decode cJ6_bitCount_0f7a4 27 = .ok (.iushr, 1) := by decide +kernel
theorem dJ6_bitCount_0f7a4_28 : decode cJ6_bitCount_0f7a4 28 = .ok (.iadd, 1) := by decide +kernel
theorem dJ6_bitCount_0f7a4_29 : decode cJ6_bitCount_0f7a4 29 = .ok (.ldc_w 267, 3) := by decide +kernel
theorem dJ6_bitCount_0f7a4_32 : decode cJ6_bitCount_0f7a4 32 = .ok (.iand, 1) := by decide +kernel
theorem dJ6_bitCount_0f7a4_33 : decode cJ6_bitCount_0f7a4 33 = .ok (.istore_n 0, 1) := by decide +kernel
theorem dJ6_bitCount_0f7a4_34 : decode cJ6_bitCount_0f7a4 34 = .ok (.iload_n 0, 1) := by decide +kernel
theorem dJ6_bitCount_0f7a4_35 : decode cJ6_bitCount_0f7a4 35 = .ok (.iload_n 0, 1) := by decide +kernel
theorem dJ6_bitCount_0f7a4_36 : decode cJ6_bitCount_0f7a4 36 = .ok (.bipush 8, 2) := by decide +kernel
theorem dJ6_bitCount_0f7a4_38 : decode cJ6_bitCount_0f7a4 38 = .ok (.iushr, 1) := by decide +kernel
theorem dJ6_bitCount_0f7a4_39 : decode cJ6_bitCount_0f7a4 39 = .ok (.iadd, 1) := by decide +kernel
theorem dJ6_bitCount_0f7a4_40 : decode cJ6_bitCount_0f7a4 40 = .ok (.istore_n 0, 1) := by decide +kernel
theorem dJ6_bitCount_0f7a4_41 : decode cJ6_bitCount_0f7a4 41 = .ok (.iload_n 0, 1) := by decide +kernel
theorem dJ6_bitCount_0f7a4_42 : decode cJ6_bitCount_0f7a4 42 = .ok (.iload_n 0, 1) := by decide +kernel
theorem dJ6_bitCount_0f7a4_43 : decode cJ6_bitCount_0f7a4 43 = .ok (.bipush 16, 2) := by decide +kernel
theorem dJ6_bitCount_0f7a4_45 : decode cJ6_bitCount_0f7a4 45 = .ok (.iushr, 1) := by decide +kernel
theorem dJ6_bitCount_0f7a4_46 : decode cJ6_bitCount_0f7a4 46 = .ok (.iadd, 1) := by decide +kernel
theorem dJ6_bitCount_0f7a4_47 : decode cJ6_bitCount_0f7a4 47 = .ok (.istore_n 0, 1) := by decide +kernel
theorem dJ6_bitCount_0f7a4_48 : decode cJ6_bitCount_0f7a4 48 = .ok (.iload_n 0, 1) := by decide +kernel
theorem dJ6_bitCount_0f7a4_49 : decode cJ6_bitCount_0f7a4 49 = .ok (.bipush 63, 2) := by decide +kernel
theorem dJ6_bitCount_0f7a4_51 : decode cJ6_bitCount_0f7a4 51 = .ok (.iand, 1) := by decide +kernel
theorem dJ6_bitCount_0f7a4_52 : decode cJ6_bitCount_0f7a4 52 = .ok (.ireturn, 1) := by decide +kernel
theorem dJ9_floorDiv_f86c9_0 : decode cJ9_floorDiv_f86c9 0 = .ok (.lload_n 0, 1) := by decide +kernel
theorem dJ9_floorDiv_f86c9_1 : decode cJ9_floorDiv_f86c9 1 = .ok (.lload_n 2, 1) := by decide +kernel
theorem dJ9_floorDiv_f86c9_2 : decode cJ9_floorDiv_f86c9 2 = .ok (.ldiv, 1) := by decide +kernel
theorem dJ9_floorDiv_f86c9_3 : decode cJ9_floorDiv_f86c9 3 = .ok (.lstore 4, 2) := by decide +kernel
theorem dJ9_floorDiv_f86c9_5 : decode cJ9_floorDiv_f86c9 5 = .ok (.lload_n 0, 1) := by decide +kernel
theorem dJ9_floorDiv_f86c9_6 : decode cJ9_floorDiv_f86c9 6 = .ok (.lload_n 2, 1) := by decide +kernel
theorem dJ9_floorDiv_f86c9_7 : decode cJ9_floorDiv_f86c9 7 = .ok (.lxor, 1) := by decide +kernel
theorem dJ9_floorDiv_f86c9_8 : decode cJ9_floorDiv_f86c9 8 = .ok (.lconst 0, 1) := by decide +kernel
theorem dJ9_floorDiv_f86c9_9 : decode cJ9_floorDiv_f86c9 9 = .ok (.lcmp, 1) := by decide +kernel
theorem dJ9_floorDiv_f86c9_10 : decode cJ9_floorDiv_f86c9 10 = .ok (.ifCond .ge 17, 3) := by decide +kernel
theorem dJ9_floorDiv_f86c9_13 : decode cJ9_floorDiv_f86c9 13 = .ok (.lload 4, 2) := by decide +kernel
theorem dJ9_floorDiv_f86c9_15 : decode cJ9_floorDiv_f86c9 15 = .ok (.lload_n 2, 1) := by decide +kernel
theorem dJ9_floorDiv_f86c9_16 : decode cJ9_floorDiv_f86c9 16 = .ok (.lmul, 1) := by decide +kernel
theorem dJ9_floorDiv_f86c9_17 : decode cJ9_floorDiv_f86c9 17 = .ok (.lload_n 0, 1) := by decide +kernel
theorem dJ9_floorDiv_f86c9_18 : decode cJ9_floorDiv_f86c9 18 = .ok (.lcmp, 1) := by decide +kernel
theorem dJ9_floorDiv_f86c9_19 : decode cJ9_floorDiv_f86c9 19 = .ok (.ifCond .eq 8, 3) := by decide +kernel
theorem dJ9_floorDiv_f86c9_22 : decode cJ9_floorDiv_f86c9 22 = .ok (.lload 4, 2) := by decide +kernel
theorem dJ9_floorDiv_f86c9_24 : decode cJ9_floorDiv_f86c9 24 = .ok (.lconst 1, 1) := by decide +kernel
theorem dJ9_floorDiv_f86c9_25 : decode cJ9_floorDiv_f86c9 25 = .ok (.lsub, 1) := by decide +kernel
theorem dJ9_floorDiv_f86c9_26 : decode cJ9_floorDiv_f86c9 26 = .ok (.lreturn, 1) := by decide +kernel
theorem dJ9_floorDiv_f86c9_27 : decode cJ9_floorDiv_f86c9 27 = .ok (.lload 4, 2) := by decide +kernel
theorem dJ9_floorDiv_f86c9_29 : decode cJ9_floorDiv_f86c9 29 = .ok (.lreturn, 1) := by decide +kernel
theorem dJ9_abs_067f4_0 : decode cJ9_abs_067f4 0 = .ok (.lload_n 0, 1) := by decide +kernel
theorem dJ9_abs_067f4_1 : decode cJ9_abs_067f4 1 = .ok (.lconst 0, 1) := by decide +kernel
theorem dJ9_abs_067f4_2 : decode cJ9_abs_067f4 2 = .ok (.lcmp, 1) := by decide +kernel
theorem dJ9_abs_067f4_3 : decode cJ9_abs_067f4 3 = .ok (.ifCond .ge 8, 3) := by decide +kernel
theorem dJ9_abs_067f4_6 : decode cJ9_abs_067f4 6 = .ok (.lload_n 0, 1) := by decide +kernel
theorem dJ9_abs_067f4_7 : decode cJ9_abs_067f4 7 = .ok (.lneg, 1) := by decide +kernel
theorem dJ9_abs_067f4_8 : decode cJ9_abs_067f4 8 = .ok (.goto 4, 3) := by decide +kernel
theorem dJ9_abs_067f4_11 : decode cJ9_abs_067f4 11 = .ok (.lload_n 0, 1) := by decide +kernel
theorem dJ9_abs_067f4_12 : decode cJ9_abs_067f4 12 = .ok (.lreturn, 1) := by decide +kernel
theorem dJ9_max_f86c9_0 : decode cJ9_max_f86c9 0 = .ok (.lload_n 0, 1) := by decide +kernel
theorem dJ9_max_f86c9_1 : decode cJ9_max_f86c9 1 = .ok (.lload_n 2, 1) := by decide +kernel
theorem dJ9_max_f86c9_2 : decode cJ9_max_f86c9 2 = .ok (.lcmp, 1) := by decide +kernel
theorem dJ9_max_f86c9_3 : decode cJ9_max_f86c9 3 = .ok (.ifCond .lt 7, 3) := by decide +kernel
theorem dJ9_max_f86c9_6 : decode cJ9_max_f86c9 6 = .ok (.lload_n 0, 1) := by decide +kernel
theorem dJ9_max_f86c9_7 : decode cJ9_max_f86c9 7 = .ok (.goto 4, 3) := by decide +kernel
theorem dJ9_max_f86c9_10 : decode cJ9_max_f86c9 10 = .ok (.lload_n 2, 1) := by decide +kernel
theorem dJ9_max_f86c9_11 : decode cJ9_max_f86c9 11 = .ok (.lreturn, 1) := by decide +kernel
theorem dJ9_min_7cf53_0 : decode cJ9_min_7cf53 0 = .ok (.iload_n 0, 1) := by decide +kernel
theorem dJ9_min_7cf53_1 : decode cJ9_min_7cf53 1 = .ok (.iload_n 1, 1) := by decide +kernel
theorem dJ9_min_7cf53_2 : decode cJ9_min_7cf53 2 = .ok (.if_icmp .gt 7, 3) := by decide +kernel
theorem dJ9_min_7cf53_5 : decode cJ9_min_7cf53 5 = .ok (.iload_n 0, 1) := by decide +kernel
theorem dJ9_min_7cf53_6 : decode cJ9_min_7cf53 6 = .ok (.goto 4, 3) := by decide +kernel
theorem dJ9_min_7cf53_9 : decode cJ9_min_7cf53 9 = .ok (.iload_n 1, 1) := by decide +kernel
theorem dJ9_min_7cf53_10 : decode cJ9_min_7cf53 10 = .ok (.ireturn, 1) := by decide +kernel
theorem dJ9_min_f86c9_0 : decode cJ9_min_f86c9 0 = .ok (.lload_n 0, 1) := by decide +kernel
theorem dJ9_min_f86c9_1 : decode cJ9_min_f86c9 1 = .ok (.lload_n 2, 1) := by decide +kernel
theorem dJ9_min_f86c9_2 : decode cJ9_min_f86c9 2 = .ok (.lcmp, 1) := by decide +kernel
theorem dJ9_min_f86c9_3 : decode cJ9_min_f86c9 3 = .ok (.ifCond .gt 7, 3) := by decide +kernel
theorem dJ9_min_f86c9_6 : decode cJ9_min_f86c9 6 = .ok (.lload_n 0, 1) := by decide +kernel
theorem dJ9_min_f86c9_7 : decode cJ9_min_f86c9 7 = .ok (.goto 4, 3) := by decide +kernel
theorem dJ9_min_f86c9_10 : decode cJ9_min_f86c9 10 = .ok (.lload_n 2, 1) := by decide +kernel
theorem dJ9_min_f86c9_11 : decode cJ9_min_f86c9 11 = .ok (.lreturn, 1) := by decide +kernel
theorem dL_started_0 : decode cL_started 0 = .ok (.aload_n 0, 1) := by decide +kernel
theorem dL_started_1 : decode cL_started 1 = .ok (.iload_n 1, 1) := by decide +kernel
theorem dL_started_2 : decode cL_started 2 = .ok (.invokevirtual 7, 3) := by decide +kernel
theorem dL_started_5 : decode cL_started 5 = .ok (.goto 7, 3) := by decide +kernel
theorem dL_started_8 : decode cL_started 8 = .ok (.astore_n 2, 1) := by decide +kernel
theorem dL_started_9 : decode cL_started 9 = .ok (.ldc 15, 2) := by decide +kernel
theorem dL_started_11 : decode cL_started 11 = .ok (.ireturn, 1) := by decide +kernel
theorem dL_started_12 : decode cL_started 12 = .ok (.iconst 0, 1) := by decide +kernel
theorem dL_started_13 : decode cL_started 13 = .ok (.ireturn, 1) := by decide +kernel
theorem dL_passed_0 : decode cL_passed 0 = .ok (.aload_n 0, 1) := by decide +kernel
theorem dL_passed_1 : decode cL_passed 1 = .ok (.iload_n 1, 1) := by decide +kernel
theorem dL_passed_2 : decode cL_passed 2 = .ok (.invokevirtual 16, 3) := by decide +kernel
theorem dL_passed_5 : decode cL_passed 5 = .ok (.lreturn, 1) := by decide +kernel
theorem dL_passed_6 : decode cL_passed 6 = .ok (.astore_n 2, 1) := by decide +kernel
theorem dL_passed_7 : decode cL_passed 7 = .ok (.ldc2_w 20, 3) := by decide +kernel
theorem dL_passed_10 : decode cL_passed 10 = .ok (.lreturn, 1) := by decide +kernel
theorem dL_passed_11 : decode cL_passed 11 = .ok (.astore_n 2, 1) := by decide +kernel
theorem dL_passed_12 : decode cL_passed 12 = .ok (.ldc2_w 24, 3) := by decide +kernel
theorem dL_passed_15 : decode cL_passed 15 = .ok (.lreturn, 1) := by decide +kernel
theorem dL_drifts_0 : decode cL_drifts 0 = .ok (.aload_n 0, 1) := by decide +kernel
theorem dL_drifts_1 : decode cL_drifts 1 = .ok (.iload_n 1, 1) := by decide +kernel
theorem dL_drifts_2 : decode cL_drifts 2 = .ok (.invokevirtual 26, 3) := by decide +kernel
theorem dL_drifts_5 : decode cL_drifts 5 = .ok (.ireturn, 1) := by decide +kernel
theorem dL_drifts_6 : decode cL_drifts 6 = .ok (.astore_n 2, 1) := by decide +kernel
theorem dL_drifts_7 : decode cL_drifts 7 = .ok (.ldc 15, 2) := by decide +kernel
theorem dL_drifts_9 : decode cL_drifts 9 = .ok (.ireturn, 1) := by decide +kernel
theorem dL_announced_0 : decode cL_announced 0 = .ok (.aload_n 0, 1) := by decide +kernel
theorem dL_announced_1 : decode cL_announced 1 = .ok (.iload_n 1, 1) := by decide +kernel
theorem dL_announced_2 : decode cL_announced 2 = .ok (.iload_n 2, 1) := by decide +kernel
theorem dL_announced_3 : decode cL_announced 3 = .ok (.invokevirtual 30, 3) := by decide +kernel
theorem dL_announced_6 : decode cL_announced 6 = .ok (.lreturn, 1) := by decide +kernel
theorem dL_announced_7 : decode cL_announced 7 = .ok (.astore_n 3, 1) := by decide +kernel
theorem dL_announced_8 : decode cL_announced 8 = .ok (.ldc2_w 20, 3) := by decide +kernel
theorem dL_announced_11 : decode cL_announced 11 = .ok (.lreturn, 1) := by decide +kernel
theorem dL_announced_12 : decode cL_announced 12 = .ok (.astore_n 3, 1) := by decide +kernel
theorem dL_announced_13 : decode cL_announced 13 = .ok (.ldc2_w 24, 3) := by decide +kernel
theorem dL_announced_16 : decode cL_announced 16 = .ok (.lreturn, 1) := by decide +kernel
theorem dL_added_0 : decode cL_added 0 = .ok (.aload_n 0, 1) := by decide +kernel
theorem dL_added_1 : decode cL_added 1 = .ok (.iload_n 1, 1) := by decide +kernel
theorem dL_added_2 : decode cL_added 2 = .ok (.iload_n 2, 1) := by decide +kernel
theorem dL_added_3 : decode cL_added 3 = .ok (.iload_n 3, 1) := by decide +kernel
theorem dL_added_4 : decode cL_added 4 = .ok (.iload 4, 2) := by decide +kernel
theorem dL_added_6 : decode cL_added 6 = .ok (.invokevirtual 34, 3) := by decide +kernel
theorem dL_added_9 : decode cL_added 9 = .ok (.ireturn, 1) := by decide +kernel
theorem dL_added_10 : decode cL_added 10 = .ok (.astore 5, 2) := by decide +kernel
theorem dL_added_12 : decode cL_added 12 = .ok (.ldc 15, 2) := by decide +kernel
theorem dL_added_14 : decode cL_added 14 = .ok (.ireturn, 1) := by decide +kernel
theorem dL_added_15 : decode cL_added 15 = .ok (.astore 5, 2) := by decide +kernel
theorem dL_added_17 : decode cL_added 17 = .ok (.ldc 38, 2) := by decide +kernel
theorem dL_added_19 : decode cL_added 19 = .ok (.ireturn, 1) := by decide +kernel
theorem dL_changed_0 : decode cL_changed 0 = .ok (.aload_n 0, 1) := by decide +kernel
theorem dL_changed_1 : decode cL_changed 1 = .ok (.iload_n 1, 1) := by decide +kernel
theorem dL_changed_2 : decode cL_changed 2 = .ok (.iload_n 2, 1) := by decide +kernel
theorem dL_changed_3 : decode cL_changed 3 = .ok (.invokevirtual 39, 3) := by decide +kernel
theorem dL_changed_6 : decode cL_changed 6 = .ok (.ireturn, 1) := by decide +kernel
theorem dL_changed_7 : decode cL_changed 7 = .ok (.astore_n 3, 1) := by decide +kernel
theorem dL_changed_8 : decode cL_changed 8 = .ok (.ldc 45, 2) := by decide +kernel
theorem dL_changed_10 : decode cL_changed 10 = .ok (.ireturn, 1) := by decide +kernel
theorem dL_changed_11 : decode cL_changed 11 = .ok (.astore_n 3, 1) := by decide +kernel
theorem dL_changed_12 : decode cL_changed 12 = .ok (.ldc 15, 2) := by decide +kernel
theorem dL_changed_14 : decode cL_changed 14 = .ok (.ireturn, 1) := by decide +kernel
theorem dL_exchanged_0 : decode cL_exchanged 0 = .ok (.aload_n 0, 1) := by decide +kernel
theorem dL_exchanged_1 : decode cL_exchanged 1 = .ok (.iload_n 1, 1) := by decide +kernel
theorem dL_exchanged_2 : decode cL_exchanged 2 = .ok (.iload_n 2, 1) := by decide +kernel
theorem dL_exchanged_3 : decode cL_exchanged 3 = .ok (.iload_n 3, 1) := by decide +kernel
theorem dL_exchanged_4 : decode cL_exchanged 4 = .ok (.iload 4, 2) := by decide +kernel
theorem dL_exchanged_6 : decode cL_exchanged 6 = .ok (.invokevirtual 46, 3) := by decide +kernel
theorem dL_exchanged_9 : decode cL_exchanged 9 = .ok (.lreturn, 1) := by decide +kernel
theorem dL_exchanged_10 : decode cL_exchanged 10 = .ok (.astore 5, 2) := by decide +kernel
theorem dL_exchanged_12 : decode cL_exchanged 12 = .ok (.ldc2_w 50, 3) := by decide +kernel
theorem dL_exchanged_15 : decode cL_exchanged 15 = .ok (.lreturn, 1) := by decide +kernel
theorem dL_exchanged_16 : decode cL_exchanged 16 = .ok (.astore 5, 2) := by decide +kernel
theorem dL_exchanged_18 : decode cL_exchanged 18 = .ok (.ldc2_w 20, 3) := by decide +kernel
theorem dL_exchanged_21 : decode cL_exchanged 21 = .ok (.lreturn, 1) := by decide +kernel
theorem dL_exchanged_22 : decode cL_exchanged 22 = .ok (.astore 5, 2) := by decide +kernel
theorem dL_exchanged_24 : decode cL_exchanged 24 = .ok (.ldc2_w 24, 3) := by decide +kernel
theorem dL_exchanged_27 : decode cL_exchanged 27 = .ok (.lreturn, 1) := by decide +kernel
theorem dL_samples_0 : decode cL_samples 0 = .ok (.aload_n 0, 1) := by decide +kernel
theorem dL_samples_1 : decode cL_samples 1 = .ok (.iload_n 1, 1) := by decide +kernel
theorem dL_samples_2 : decode cL_samples 2 = .ok (.invokevirtual 52, 3) := by decide +kernel
theorem dL_samples_5 : decode cL_samples 5 = .ok (.ireturn, 1) := by decide +kernel
theorem dL_samples_6 : decode cL_samples 6 = .ok (.astore_n 2, 1) := by decide +kernel
theorem dL_samples_7 : decode cL_samples 7 = .ok (.ldc 45, 2) := by decide +kernel
theorem dL_samples_9 : decode cL_samples 9 = .ok (.ireturn, 1) := by decide +kernel
theorem dL_offset_0 : decode cL_offset 0 = .ok (.aload_n 0, 1) := by decide +kernel
theorem dL_offset_1 : decode cL_offset 1 = .ok (.iload_n 1, 1) := by decide +kernel
theorem dL_offset_2 : decode cL_offset 2 = .ok (.invokevirtual 55, 3) := by decide +kernel
theorem dL_offset_5 : decode cL_offset 5 = .ok (.lreturn, 1) := by decide +kernel
theorem dL_offset_6 : decode cL_offset 6 = .ok (.astore_n 2, 1) := by decide +kernel
theorem dL_offset_7 : decode cL_offset 7 = .ok (.ldc2_w 50, 3) := by decide +kernel
theorem dL_offset_10 : decode cL_offset 10 = .ok (.lreturn, 1) := by decide +kernel
theorem dL_offset_11 : decode cL_offset 11 = .ok (.astore_n 2, 1) := by decide +kernel
theorem dL_offset_12 : decode cL_offset 12 = .ok (.ldc2_w 24, 3) := by decide +kernel
theorem dL_offset_15 : decode cL_offset 15 = .ok (.lreturn, 1) := by decide +kernel
theorem dL_delay_0 : decode cL_delay 0 = .ok (.aload_n 0, 1) := by decide +kernel
theorem dL_delay_1 : decode cL_delay 1 = .ok (.iload_n 1, 1) := by decide +kernel
theorem dL_delay_2 : decode cL_delay 2 = .ok (.invokevirtual 58, 3) := by decide +kernel
theorem dL_delay_5 : decode cL_delay 5 = .ok (.lreturn, 1) := by decide +kernel
theorem dL_delay_6 : decode cL_delay 6 = .ok (.astore_n 2, 1) := by decide +kernel
theorem dL_delay_7 : decode cL_delay 7 = .ok (.ldc2_w 50, 3) := by decide +kernel
theorem dL_delay_10 : decode cL_delay 10 = .ok (.lreturn, 1) := by decide +kernel
theorem dL_delay_11 : decode cL_delay 11 = .ok (.astore_n 2, 1) := by decide +kernel
theorem dL_delay_12 : decode cL_delay 12 = .ok (.ldc2_w 24, 3) := by decide +kernel
theorem dL_delay_15 : decode cL_delay 15 = .ok (.lreturn, 1) := by decide +kernel
theorem dL_jitter_0 : decode cL_jitter 0 = .ok (.aload_n 0, 1) := by decide +kernel
theorem dL_jitter_1 : decode cL_jitter 1 = .ok (.iload_n 1, 1) := by decide +kernel
theorem dL_jitter_2 : decode cL_jitter 2 = .ok (.invokevirtual 61, 3) := by decide +kernel
theorem dL_jitter_5 : decode cL_jitter 5 = .ok (.lreturn, 1) := by decide +kernel
theorem dL_jitter_6 : decode cL_jitter 6 = .ok (.astore_n 2, 1) := by decide +kernel
theorem dL_jitter_7 : decode cL_jitter 7 = .ok (.ldc2_w 50, 3) := by decide +kernel
theorem dL_jitter_10 : decode cL_jitter 10 = .ok (.lreturn, 1) := by decide +kernel
theorem dL_jitter_11 : decode cL_jitter 11 = .ok (.astore_n 2, 1) := by decide +kernel
theorem dL_jitter_12 : decode cL_jitter 12 = .ok (.ldc2_w 24, 3) := by decide +kernel
theorem dL_jitter_15 : decode cL_jitter 15 = .ok (.lreturn, 1) := by decide +kernel
theorem dL_distance_0 : decode cL_distance 0 = .ok (.aload_n 0, 1) := by decide +kernel
theorem dL_distance_1 : decode cL_distance 1 = .ok (.iload_n 1, 1) := by decide +kernel
theorem dL_distance_2 : decode cL_distance 2 = .ok (.invokevirtual 64, 3) := by decide +kernel
theorem dL_distance_5 : decode cL_distance 5 = .ok (.lreturn, 1) := by decide +kernel
theorem dL_distance_6 : decode cL_distance 6 = .ok (.astore_n 2, 1) := by decide +kernel
theorem dL_distance_7 : decode cL_distance 7 = .ok (.ldc2_w 50, 3) := by decide +kernel
theorem dL_distance_10 : decode cL_distance 10 = .ok (.lreturn, 1) := by decide +kernel
theorem dL_distance_11 : decode cL_distance 11 = .ok (.astore_n 2, 1) := by decide +kernel
theorem dL_distance_12 : decode cL_distance 12 = .ok (.ldc2_w 24, 3) := by decide +kernel
theorem dL_distance_15 : decode cL_distance 15 = .ok (.lreturn, 1) := by decide +kernel
theorem dL_low_0 : decode cL_low 0 = .ok (.aload_n 0, 1) := by decide +kernel
theorem dL_low_1 : decode cL_low 1 = .ok (.invokevirtual 67, 3) := by decide +kernel
theorem dL_low_4 : decode cL_low 4 = .ok (.lreturn, 1) := by decide +kernel
theorem dL_low_5 : decode cL_low 5 = .ok (.astore_n 1, 1) := by decide +kernel
theorem dL_low_6 : decode cL_low 6 = .ok (.ldc2_w 24, 3) := by decide +kernel
theorem dL_low_9 : decode cL_low 9 = .ok (.lreturn, 1) := by decide +kernel
theorem dL_high_0 : decode cL_high 0 = .ok (.aload_n 0, 1) := by decide +kernel
theorem dL_high_1 : decode cL_high 1 = .ok (.invokevirtual 71, 3) := by decide +kernel
theorem dL_high_4 : decode cL_high 4 = .ok (.lreturn, 1) := by decide +kernel
theorem dL_high_5 : decode cL_high 5 = .ok (.astore_n 1, 1) := by decide +kernel
theorem dL_high_6 : decode cL_high 6 = .ok (.ldc2_w 24, 3) := by decide +kernel
theorem dL_high_9 : decode cL_high 9 = .ok (.lreturn, 1) := by decide +kernel
theorem dL_combined_0 : decode cL_combined 0 = .ok (.aload_n 0, 1) := by decide +kernel
theorem dL_combined_1 : decode cL_combined 1 = .ok (.invokevirtual 74, 3) := by decide +kernel
theorem dL_combined_4 : decode cL_combined 4 = .ok (.lreturn, 1) := by decide +kernel
theorem dL_combined_5 : decode cL_combined 5 = .ok (.astore_n 1, 1) := by decide +kernel
theorem dL_combined_6 : decode cL_combined 6 = .ok (.ldc2_w 24, 3) := by decide +kernel
theorem dL_combined_9 : decode cL_combined 9 = .ok (.lreturn, 1) := by decide +kernel
theorem dL_synchronizes_0 : decode cL_synchronizes 0 = .ok (.aload_n 0, 1) := by decide +kernel
theorem dL_synchronizes_1 : decode cL_synchronizes 1 = .ok (.invokevirtual 77, 3) := by decide +kernel
theorem dL_synchronizes_4 : decode cL_synchronizes 4 = .ok (.ireturn, 1) := by decide +kernel
theorem dL_synchronizes_5 : decode cL_synchronizes 5 = .ok (.astore_n 1, 1) := by decide +kernel
theorem dL_synchronizes_6 : decode cL_synchronizes 6 = .ok (.ldc 38, 2) := by decide +kernel
theorem dL_synchronizes_8 : decode cL_synchronizes 8 = .ok (.ireturn, 1) := by decide +kernel
