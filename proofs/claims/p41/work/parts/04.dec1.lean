theorem dX0_init_0 : decode cX0_init 0 = .ok (.aload_n 0, 1) := by decide +kernel
theorem dX0_init_1 : decode cX0_init 1 = .ok (.invokespecial 3, 3) := by decide +kernel
theorem dX0_init_4 : decode cX0_init 4 = .ok (.aload_n 0, 1) := by decide +kernel
theorem dX0_init_5 : decode cX0_init 5 = .ok (.new 9, 3) := by decide +kernel
theorem dX0_init_8 : decode cX0_init 8 = .ok (.dup, 1) := by decide +kernel
theorem dX0_init_9 : decode cX0_init 9 = .ok (.invokespecial 11, 3) := by decide +kernel
theorem dX0_init_12 : decode cX0_init 12 = .ok (.putfield 12, 3) := by decide +kernel
theorem dX0_init_15 : decode cX0_init 15 = .ok (.aload_n 0, 1) := by decide +kernel
theorem dX0_init_16 : decode cX0_init 16 = .ok (.iconst (-1), 1) := by decide +kernel
theorem dX0_init_17 : decode cX0_init 17 = .ok (.putfield 18, 3) := by decide +kernel
theorem dX0_init_20 : decode cX0_init 20 = .ok (.aload_n 0, 1) := by decide +kernel
theorem dX0_init_21 : decode cX0_init 21 = .ok (.iload_n 1, 1) := by decide +kernel
theorem dX0_init_22 : decode cX0_init 22 = .ok (.putfield 22, 3) := by decide +kernel
theorem dX0_init_25 : decode cX0_init 25 = .ok (.return_, 1) := by decide +kernel
theorem dX0_copyFrom_0 : decode cX0_copyFrom 0 = .ok (.aload_n 0, 1) := by decide +kernel
theorem dX0_copyFrom_1 : decode cX0_copyFrom 1 = .ok (.getfield 12, 3) := by decide +kernel
theorem dX0_copyFrom_4 : decode cX0_copyFrom 4 = .ok (.aload_n 1, 1) := by decide +kernel
theorem dX0_copyFrom_5 : decode cX0_copyFrom 5 = .ok (.getfield 12, 3) := by decide +kernel
theorem dX0_copyFrom_8 : decode cX0_copyFrom 8 = .ok (.invokevirtual 26, 3) := by decide +kernel
theorem dX0_copyFrom_11 : decode cX0_copyFrom 11 = .ok (.aload_n 0, 1) := by decide +kernel
theorem dX0_copyFrom_12 : decode cX0_copyFrom 12 = .ok (.aload_n 1, 1) := by decide +kernel
theorem dX0_copyFrom_13 : decode cX0_copyFrom 13 = .ok (.getfield 22, 3) := by decide +kernel
theorem dX0_copyFrom_16 : decode cX0_copyFrom 16 = .ok (.putfield 22, 3) := by decide +kernel
theorem dX0_copyFrom_19 : decode cX0_copyFrom 19 = .ok (.aload_n 0, 1) := by decide +kernel
theorem dX0_copyFrom_20 : decode cX0_copyFrom 20 = .ok (.aload_n 1, 1) := by decide +kernel
theorem dX0_copyFrom_21 : decode cX0_copyFrom 21 = .ok (.getfield 18, 3) := by decide +kernel
theorem dX0_copyFrom_24 : decode cX0_copyFrom 24 = .ok (.putfield 18, 3) := by decide +kernel
theorem dX0_copyFrom_27 : decode cX0_copyFrom 27 = .ok (.return_, 1) := by decide +kernel
theorem dX1_init_0 : decode cX1_init 0 = .ok (.aload_n 0, 1) := by decide +kernel
theorem dX1_init_1 : decode cX1_init 1 = .ok (.invokespecial 3, 3) := by decide +kernel
theorem dX1_init_4 : decode cX1_init 4 = .ok (.aload_n 0, 1) := by decide +kernel
theorem dX1_init_5 : decode cX1_init 5 = .ok (.bipush 66, 2) := by decide +kernel
theorem dX1_init_7 : decode cX1_init 7 = .ok (.newarray .int, 2) := by decide +kernel
theorem dX1_init_9 : decode cX1_init 9 = .ok (.putfield 9, 3) := by decide +kernel
theorem dX1_init_12 : decode cX1_init 12 = .ok (.aload_n 0, 1) := by decide +kernel
theorem dX1_init_13 : decode cX1_init 13 = .ok (.bipush 66, 2) := by decide +kernel
theorem dX1_init_15 : decode cX1_init 15 = .ok (.newarray .int, 2) := by decide +kernel
theorem dX1_init_17 : decode cX1_init 17 = .ok (.putfield 15, 3) := by decide +kernel
theorem dX1_init_20 : decode cX1_init 20 = .ok (.aload_n 0, 1) := by decide +kernel
theorem dX1_init_21 : decode cX1_init 21 = .ok (.bipush 66, 2) := by decide +kernel
theorem dX1_init_23 : decode cX1_init 23 = .ok (.newarray .boolean, 2) := by decide +kernel
theorem dX1_init_25 : decode cX1_init 25 = .ok (.putfield 18, 3) := by decide +kernel
theorem dX1_init_28 : decode cX1_init 28 = .ok (.aload_n 0, 1) := by decide +kernel
theorem dX1_init_29 : decode cX1_init 29 = .ok (.iconst 0, 1) := by decide +kernel
theorem dX1_init_30 : decode cX1_init 30 = .ok (.putfield 22, 3) := by decide +kernel
theorem dX1_init_33 : decode cX1_init 33 = .ok (.aload_n 0, 1) := by decide +kernel
theorem dX1_init_34 : decode cX1_init 34 = .ok (.bipush 32, 2) := by decide +kernel
theorem dX1_init_36 : decode cX1_init 36 = .ok (.newarray .boolean, 2) := by decide +kernel
theorem dX1_init_38 : decode cX1_init 38 = .ok (.putfield 26, 3) := by decide +kernel
theorem dX1_init_41 : decode cX1_init 41 = .ok (.aload_n 0, 1) := by decide +kernel
theorem dX1_init_42 : decode cX1_init 42 = .ok (.iload_n 1, 1) := by decide +kernel
theorem dX1_init_43 : decode cX1_init 43 = .ok (.putfield 29, 3) := by decide +kernel
theorem dX1_init_46 : decode cX1_init 46 = .ok (.return_, 1) := by decide +kernel
theorem dX1_isEntry_0 : decode cX1_isEntry 0 = .ok (.iload_n 0, 1) := by decide +kernel
theorem dX1_isEntry_1 : decode cX1_isEntry 1 = .ok (.ifCond .lt 13, 3) := by decide +kernel
theorem dX1_isEntry_4 : decode cX1_isEntry 4 = .ok (.iload_n 0, 1) := by decide +kernel
theorem dX1_isEntry_5 : decode cX1_isEntry 5 = .ok (.bipush 66, 2) := by decide +kernel
theorem dX1_isEntry_7 : decode cX1_isEntry 7 = .ok (.if_icmp .ge 7, 3) := by decide +kernel
theorem dX1_isEntry_10 : decode cX1_isEntry 10 = .ok (.iconst 1, 1) := by decide +kernel
theorem dX1_isEntry_11 : decode cX1_isEntry 11 = .ok (.goto 4, 3) := by decide +kernel
theorem dX1_isEntry_14 : decode cX1_isEntry 14 = .ok (.iconst 0, 1) := by decide +kernel
theorem dX1_isEntry_15 : decode cX1_isEntry 15 = .ok (.ireturn, 1) := by decide +kernel
theorem dX1_firstOf_0 : decode cX1_firstOf 0 = .ok (.iload_n 1, 1) := by decide +kernel
theorem dX1_firstOf_1 : decode cX1_firstOf 1 = .ok (.invokestatic 32, 3) := by decide +kernel
theorem dX1_firstOf_4 : decode cX1_firstOf 4 = .ok (.ifCond .eq 12, 3) := by decide +kernel
theorem dX1_firstOf_7 : decode cX1_firstOf 7 = .ok (.aload_n 0, 1) := by decide +kernel
theorem dX1_firstOf_8 : decode cX1_firstOf 8 = .ok (.getfield 9, 3) := by decide +kernel
theorem dX1_firstOf_11 : decode cX1_firstOf 11 = .ok (.iload_n 1, 1) := by decide +kernel
theorem dX1_firstOf_12 : decode cX1_firstOf 12 = .ok (.iaload, 1) := by decide +kernel
theorem dX1_firstOf_13 : decode cX1_firstOf 13 = .ok (.goto 4, 3) := by decide +kernel
theorem dX1_firstOf_16 : decode cX1_firstOf 16 = .ok (.iconst 0, 1) := by decide +kernel
theorem dX1_firstOf_17 : decode cX1_firstOf 17 = .ok (.ireturn, 1) := by decide +kernel
theorem dX1_blocksOf_0 : decode cX1_blocksOf 0 = .ok (.iload_n 1, 1) := by decide +kernel
theorem dX1_blocksOf_1 : decode cX1_blocksOf 1 = .ok (.invokestatic 32, 3) := by decide +kernel
theorem dX1_blocksOf_4 : decode cX1_blocksOf 4 = .ok (.ifCond .eq 12, 3) := by decide +kernel
theorem dX1_blocksOf_7 : decode cX1_blocksOf 7 = .ok (.aload_n 0, 1) := by decide +kernel
theorem dX1_blocksOf_8 : decode cX1_blocksOf 8 = .ok (.getfield 15, 3) := by decide +kernel
theorem dX1_blocksOf_11 : decode cX1_blocksOf 11 = .ok (.iload_n 1, 1) := by decide +kernel
theorem dX1_blocksOf_12 : decode cX1_blocksOf 12 = .ok (.iaload, 1) := by decide +kernel
theorem dX1_blocksOf_13 : decode cX1_blocksOf 13 = .ok (.goto 4, 3) := by decide +kernel
theorem dX1_blocksOf_16 : decode cX1_blocksOf 16 = .ok (.iconst 0, 1) := by decide +kernel
theorem dX1_blocksOf_17 : decode cX1_blocksOf 17 = .ok (.ireturn, 1) := by decide +kernel
theorem dX1_isAllocation_0 : decode cX1_isAllocation 0 = .ok (.iload_n 1, 1) := by decide +kernel
theorem dX1_isAllocation_1 : decode cX1_isAllocation 1 = .ok (.invokestatic 32, 3) := by decide +kernel
theorem dX1_isAllocation_4 : decode cX1_isAllocation 4 = .ok (.ifCond .eq 16, 3) := by decide +kernel
theorem dX1_isAllocation_7 : decode cX1_isAllocation 7 = .ok (.aload_n 0, 1) := by decide +kernel
theorem dX1_isAllocation_8 : decode cX1_isAllocation 8 = .ok (.getfield 18, 3) := by decide +kernel
theorem dX1_isAllocation_11 : decode cX1_isAllocation 11 = .ok (.iload_n 1, 1) := by decide +kernel
theorem dX1_isAllocation_12 : decode cX1_isAllocation 12 = .ok (.baload, 1) := by decide +kernel
theorem dX1_isAllocation_13 : decode cX1_isAllocation 13 = .ok (.ifCond .eq 7, 3) := by decide +kernel
theorem dX1_isAllocation_16 : decode cX1_isAllocation 16 = .ok (.iconst 1, 1) := by decide +kernel
theorem dX1_isAllocation_17 : decode cX1_isAllocation 17 = .ok (.goto 4, 3) := by decide +kernel
theorem dX1_isAllocation_20 : decode cX1_isAllocation 20 = .ok (.iconst 0, 1) := by decide +kernel
theorem dX1_isAllocation_21 : decode cX1_isAllocation 21 = .ok (.ireturn, 1) := by decide +kernel
theorem dX1_record_0 : decode cX1_record 0 = .ok (.aload_n 0, 1) := by decide +kernel
theorem dX1_record_1 : decode cX1_record 1 = .ok (.aload_n 1, 1) := by decide +kernel
theorem dX1_record_2 : decode cX1_record 2 = .ok (.aload_n 2, 1) := by decide +kernel
theorem dX1_record_3 : decode cX1_record 3 = .ok (.invokevirtual 36, 3) := by decide +kernel
theorem dX1_record_6 : decode cX1_record 6 = .ok (.aload_n 0, 1) := by decide +kernel
theorem dX1_record_7 : decode cX1_record 7 = .ok (.iconst 1, 1) := by decide +kernel
theorem dX1_record_8 : decode cX1_record 8 = .ok (.invokevirtual 40, 3) := by decide +kernel
theorem dX1_record_11 : decode cX1_record 11 = .ok (.aload_n 0, 1) := by decide +kernel
theorem dX1_record_12 : decode cX1_record 12 = .ok (.aload_n 2, 1) := by decide +kernel
theorem dX1_record_13 : decode cX1_record 13 = .ok (.aload_n 1, 1) := by decide +kernel
theorem dX1_record_14 : decode cX1_record 14 = .ok (.invokevirtual 36, 3) := by decide +kernel
theorem dX1_record_17 : decode cX1_record 17 = .ok (.aload_n 0, 1) := by decide +kernel
theorem dX1_record_18 : decode cX1_record 18 = .ok (.iconst 0, 1) := by decide +kernel
theorem dX1_record_19 : decode cX1_record 19 = .ok (.invokevirtual 40, 3) := by decide +kernel
theorem dX1_record_22 : decode cX1_record 22 = .ok (.aload_n 0, 1) := by decide +kernel
theorem dX1_record_23 : decode cX1_record 23 = .ok (.aload_n 1, 1) := by decide +kernel
theorem dX1_record_24 : decode cX1_record 24 = .ok (.invokevirtual 44, 3) := by decide +kernel
theorem dX1_record_27 : decode cX1_record 27 = .ok (.aload_n 0, 1) := by decide +kernel
theorem dX1_record_28 : decode cX1_record 28 = .ok (.getfield 22, 3) := by decide +kernel
theorem dX1_record_31 : decode cX1_record 31 = .ok (.iconst 2, 1) := by decide +kernel
theorem dX1_record_32 : decode cX1_record 32 = .ok (.aload_n 0, 1) := by decide +kernel
theorem dX1_record_33 : decode cX1_record 33 = .ok (.invokevirtual 48, 3) := by decide +kernel
theorem dX1_record_36 : decode cX1_record 36 = .ok (.imul, 1) := by decide +kernel
theorem dX1_record_37 : decode cX1_record 37 = .ok (.iconst 2, 1) := by decide +kernel
theorem dX1_record_38 : decode cX1_record 38 = .ok (.iadd, 1) := by decide +kernel
theorem dX1_record_39 : decode cX1_record 39 = .ok (.if_icmp .gt 5, 3) := by decide +kernel
theorem dX1_record_42 : decode cX1_record 42 = .ok (.iconst 0, 1) := by decide +kernel
theorem dX1_record_43 : decode cX1_record 43 = .ok (.ireturn, 1) := by decide +kernel
theorem dX1_record_44 : decode cX1_record 44 = .ok (.aload_n 0, 1) := by decide +kernel
theorem dX1_record_45 : decode cX1_record 45 = .ok (.iconst 0, 1) := by decide +kernel
theorem dX1_record_46 : decode cX1_record 46 = .ok (.putfield 22, 3) := by decide +kernel
theorem dX1_record_49 : decode cX1_record 49 = .ok (.aload_n 0, 1) := by decide +kernel
theorem dX1_record_50 : decode cX1_record 50 = .ok (.iconst 1, 1) := by decide +kernel
theorem dX1_record_51 : decode cX1_record 51 = .ok (.invokevirtual 40, 3) := by decide +kernel
theorem dX1_record_54 : decode cX1_record 54 = .ok (.iconst 1, 1) := by decide +kernel
theorem dX1_record_55 : decode cX1_record 55 = .ok (.ireturn, 1) := by decide +kernel
theorem dX1_markChanges_0 : decode cX1_markChanges 0 = .ok (.iconst 0, 1) := by decide +kernel
theorem dX1_markChanges_1 : decode cX1_markChanges 1 = .ok (.istore_n 3, 1) := by decide +kernel
theorem dX1_markChanges_2 : decode cX1_markChanges 2 = .ok (.iload_n 3, 1) := by decide +kernel
theorem dX1_markChanges_3 : decode cX1_markChanges 3 = .ok (.bipush 32, 2) := by decide +kernel
theorem dX1_markChanges_5 : decode cX1_markChanges 5 = .ok (.if_icmp .ge 46, 3) := by decide +kernel
theorem dX1_markChanges_8 : decode cX1_markChanges 8 = .ok (.aload_n 0, 1) := by decide +kernel
theorem dX1_markChanges_9 : decode cX1_markChanges 9 = .ok (.getfield 26, 3) := by decide +kernel
theorem dX1_markChanges_12 : decode cX1_markChanges 12 = .ok (.iload_n 3, 1) := by decide +kernel
theorem dX1_markChanges_13 : decode cX1_markChanges 13 = .ok (.aload_n 1, 1) := by decide +kernel
theorem dX1_markChanges_14 : decode cX1_markChanges 14 = .ok (.aload_n 0, 1) := by decide +kernel
theorem dX1_markChanges_15 : decode cX1_markChanges 15 = .ok (.getfield 29, 3) := by decide +kernel
theorem dX1_markChanges_18 : decode cX1_markChanges 18 = .ok (.iload_n 3, 1) := by decide +kernel
theorem dX1_markChanges_19 : decode cX1_markChanges 19 = .ok (.iadd, 1) := by decide +kernel
theorem dX1_markChanges_20 : decode cX1_markChanges 20 = .ok (.invokevirtual 52, 3) := by decide +kernel
theorem dX1_markChanges_23 : decode cX1_markChanges 23 = .ok (.ifCond .eq 20, 3) := by decide +kernel
theorem dX1_markChanges_26 : decode cX1_markChanges 26 = .ok (.aload_n 2, 1) := by decide +kernel
theorem dX1_markChanges_27 : decode cX1_markChanges 27 = .ok (.aload_n 0, 1) := by decide +kernel
theorem dX1_markChanges_28 : decode cX1_markChanges 28 = .ok (.getfield 29, 3) := by decide +kernel
theorem dX1_markChanges_31 : decode cX1_markChanges 31 = .ok (.iload_n 3, 1) := by decide +kernel
theorem dX1_markChanges_32 : decode cX1_markChanges 32 = .ok (.iadd, 1) := by decide +kernel
theorem dX1_markChanges_33 : decode cX1_markChanges 33 = .ok (.invokevirtual 52, 3) := by decide +kernel
theorem dX1_markChanges_36 : decode cX1_markChanges 36 = .ok (.ifCond .ne 7, 3) := by decide +kernel
theorem dX1_markChanges_39 : decode cX1_markChanges 39 = .ok (.iconst 1, 1) := by decide +kernel
theorem dX1_markChanges_40 : decode cX1_markChanges 40 = .ok (.goto 4, 3) := by decide +kernel
theorem dX1_markChanges_43 : decode cX1_markChanges 43 = .ok (.iconst 0, 1) := by decide +kernel
theorem dX1_markChanges_44 : decode cX1_markChanges 44 = .ok (.bastore, 1) := by decide +kernel
theorem dX1_markChanges_45 : decode cX1_markChanges 45 = .ok (.iinc 3 1, 3) := by decide +kernel
theorem dX1_markChanges_48 : decode cX1_markChanges 48 = .ok (.goto (-46), 3) := by decide +kernel
theorem dX1_markChanges_51 : decode cX1_markChanges 51 = .ok (.return_, 1) := by decide +kernel
theorem dX1_markAllocated_0 : decode cX1_markAllocated 0 = .ok (.iconst 0, 1) := by decide +kernel
theorem dX1_markAllocated_1 : decode cX1_markAllocated 1 = .ok (.istore_n 2, 1) := by decide +kernel
theorem dX1_markAllocated_2 : decode cX1_markAllocated 2 = .ok (.iload_n 2, 1) := by decide +kernel
theorem dX1_markAllocated_3 : decode cX1_markAllocated 3 = .ok (.bipush 32, 2) := by decide +kernel
theorem dX1_markAllocated_5 : decode cX1_markAllocated 5 = .ok (.if_icmp .ge 25, 3) := by decide +kernel
theorem dX1_markAllocated_8 : decode cX1_markAllocated 8 = .ok (.aload_n 0, 1) := by decide +kernel
theorem dX1_markAllocated_9 : decode cX1_markAllocated 9 = .ok (.getfield 26, 3) := by decide +kernel
theorem dX1_markAllocated_12 : decode cX1_markAllocated 12 = .ok (.iload_n 2, 1) := by decide +kernel
theorem dX1_markAllocated_13 : decode cX1_markAllocated 13 = .ok (.aload_n 1, 1) := by decide +kernel
theorem dX1_markAllocated_14 : decode cX1_markAllocated 14 = .ok (.aload_n 0, 1) := by decide +kernel
theorem dX1_markAllocated_15 : decode cX1_markAllocated 15 = .ok (.getfield 29, 3) := by decide +kernel
theorem dX1_markAllocated_18 : decode cX1_markAllocated 18 = .ok (.iload_n 2, 1) := by decide +kernel
theorem dX1_markAllocated_19 : decode cX1_markAllocated 19 = .ok (.iadd, 1) := by decide +kernel
theorem dX1_markAllocated_20 : decode cX1_markAllocated 20 = .ok (.invokevirtual 52, 3) := by decide +kernel
theorem dX1_markAllocated_23 : decode cX1_markAllocated 23 = .ok (.bastore, 1) := by decide +kernel
theorem dX1_markAllocated_24 : decode cX1_markAllocated 24 = .ok (.iinc 2 1, 3) := by decide +kernel
theorem dX1_markAllocated_27 : decode cX1_markAllocated 27 = .ok (.goto (-25), 3) := by decide +kernel
theorem dX1_markAllocated_30 : decode cX1_markAllocated 30 = .ok (.return_, 1) := by decide +kernel
theorem dX1_countMarkedRuns_0 : decode cX1_countMarkedRuns 0 = .ok (.iconst 0, 1) := by decide +kernel
theorem dX1_countMarkedRuns_1 : decode cX1_countMarkedRuns 1 = .ok (.istore_n 1, 1) := by decide +kernel
theorem dX1_countMarkedRuns_2 : decode cX1_countMarkedRuns 2 = .ok (.iconst 0, 1) := by decide +kernel
theorem dX1_countMarkedRuns_3 : decode cX1_countMarkedRuns 3 = .ok (.istore_n 2, 1) := by decide +kernel
theorem dX1_countMarkedRuns_4 : decode cX1_countMarkedRuns 4 = .ok (.iload_n 2, 1) := by decide +kernel
theorem dX1_countMarkedRuns_5 : decode cX1_countMarkedRuns 5 = .ok (.bipush 32, 2) := by decide +kernel
theorem dX1_countMarkedRuns_7 : decode cX1_countMarkedRuns 7 = .ok (.if_icmp .ge 36, 3) := by decide +kernel
theorem dX1_countMarkedRuns_10 : decode cX1_countMarkedRuns 10 = .ok (.aload_n 0, 1) := by decide +kernel
theorem dX1_countMarkedRuns_11 : decode cX1_countMarkedRuns 11 = .ok (.getfield 26, 3) := by decide +kernel
theorem dX1_countMarkedRuns_14 : decode cX1_countMarkedRuns 14 = .ok (.iload_n 2, 1) := by decide +kernel
theorem dX1_countMarkedRuns_15 : decode cX1_countMarkedRuns 15 = .ok (.baload, 1) := by decide +kernel
theorem dX1_countMarkedRuns_16 : decode cX1_countMarkedRuns 16 = .ok (.ifCond .eq 21, 3) := by decide +kernel
theorem dX1_countMarkedRuns_19 : decode cX1_countMarkedRuns 19 = .ok (.iload_n 2, 1) := by decide +kernel
theorem dX1_countMarkedRuns_20 : decode cX1_countMarkedRuns 20 = .ok (.ifCond .eq 14, 3) := by decide +kernel
theorem dX1_countMarkedRuns_23 : decode cX1_countMarkedRuns 23 = .ok (.aload_n 0, 1) := by decide +kernel
theorem dX1_countMarkedRuns_24 : decode cX1_countMarkedRuns 24 = .ok (.getfield 26, 3) := by decide +kernel
theorem dX1_countMarkedRuns_27 : decode cX1_countMarkedRuns 27 = .ok (.iload_n 2, 1) := by decide +kernel
theorem dX1_countMarkedRuns_28 : decode cX1_countMarkedRuns 28 = .ok (.iconst 1, 1) := by decide +kernel
theorem dX1_countMarkedRuns_29 : decode cX1_countMarkedRuns 29 = .ok (.isub, 1) := by decide +kernel
theorem dX1_countMarkedRuns_30 : decode cX1_countMarkedRuns 30 = .ok (.baload, 1) := by decide +kernel
theorem dX1_countMarkedRuns_31 : decode cX1_countMarkedRuns 31 = .ok (.ifCond .ne 6, 3) := by decide +kernel
theorem dX1_countMarkedRuns_34 : decode cX1_countMarkedRuns 34 = .ok (.iinc 1 1, 3) := by decide +kernel
theorem dX1_countMarkedRuns_37 : decode cX1_countMarkedRuns 37 = .ok (.iinc 2 1, 3) := by decide +kernel
theorem dX1_countMarkedRuns_40 : decode cX1_countMarkedRuns 40 = .ok (.goto (-36), 3) := by decide +kernel
theorem dX1_countMarkedRuns_43 : decode cX1_countMarkedRuns 43 = .ok (.iload_n 1, 1) := by decide +kernel
theorem dX1_countMarkedRuns_44 : decode cX1_countMarkedRuns 44 = .ok (.ireturn, 1) := by decide +kernel
theorem dX1_appendMarkedRuns_0 : decode cX1_appendMarkedRuns 0 = .ok (.iconst 0, 1) := by decide +kernel
theorem dX1_appendMarkedRuns_1 : decode cX1_appendMarkedRuns 1 = .ok (.istore_n 2, 1) := by decide +kernel
theorem dX1_appendMarkedRuns_2 : decode cX1_appendMarkedRuns 2 = .ok (.iconst 0, 1) := by decide +kernel
theorem dX1_appendMarkedRuns_3 : decode cX1_appendMarkedRuns 3 = .ok (.istore_n 3, 1) := by decide +kernel
theorem dX1_appendMarkedRuns_4 : decode cX1_appendMarkedRuns 4 = .ok (.iload_n 3, 1) := by decide +kernel
theorem dX1_appendMarkedRuns_5 : decode cX1_appendMarkedRuns 5 = .ok (.bipush 32, 2) := by decide +kernel
theorem dX1_appendMarkedRuns_7 : decode cX1_appendMarkedRuns 7 = .ok (.if_icmp .ge 40, 3) := by decide +kernel
theorem dX1_appendMarkedRuns_10 : decode cX1_appendMarkedRuns 10 = .ok (.aload_n 0, 1) := by decide +kernel
theorem dX1_appendMarkedRuns_11 : decode cX1_appendMarkedRuns 11 = .ok (.getfield 26, 3) := by decide +kernel
theorem dX1_appendMarkedRuns_14 : decode cX1_appendMarkedRuns 14 = .ok (.iload_n 3, 1) := by decide +kernel
theorem dX1_appendMarkedRuns_15 : decode cX1_appendMarkedRuns 15 = .ok (.baload, 1) := by decide +kernel
theorem dX1_appendMarkedRuns_16 : decode cX1_appendMarkedRuns 16 = .ok (.ifCond .eq 9, 3) := by decide +kernel
theorem dX1_appendMarkedRuns_19 : decode cX1_appendMarkedRuns 19 = .ok (.iinc 2 1, 3) := by decide +kernel
theorem dX1_appendMarkedRuns_22 : decode cX1_appendMarkedRuns 22 = .ok (.goto 19, 3) := by decide +kernel
theorem dX1_appendMarkedRuns_25 : decode cX1_appendMarkedRuns 25 = .ok (.aload_n 0, 1) := by decide +kernel
theorem dX1_appendMarkedRuns_26 : decode cX1_appendMarkedRuns 26 = .ok (.aload_n 0, 1) := by decide +kernel
theorem dX1_appendMarkedRuns_27 : decode cX1_appendMarkedRuns 27 = .ok (.getfield 29, 3) := by decide +kernel
theorem dX1_appendMarkedRuns_30 : decode cX1_appendMarkedRuns 30 = .ok (.iload_n 3, 1) := by decide +kernel
theorem dX1_appendMarkedRuns_31 : decode cX1_appendMarkedRuns 31 = .ok (.iadd, 1) := by decide +kernel
theorem dX1_appendMarkedRuns_32 : decode cX1_appendMarkedRuns 32 = .ok (.iload_n 2, 1) := by decide +kernel
theorem dX1_appendMarkedRuns_33 : decode cX1_appendMarkedRuns 33 = .ok (.isub, 1) := by decide +kernel
theorem dX1_appendMarkedRuns_34 : decode cX1_appendMarkedRuns 34 = .ok (.iload_n 2, 1) := by decide +kernel
theorem dX1_appendMarkedRuns_35 : decode cX1_appendMarkedRuns 35 = .ok (.iload_n 1, 1) := by decide +kernel
theorem dX1_appendMarkedRuns_36 : decode cX1_appendMarkedRuns 36 = .ok (.invokevirtual 57, 3) := by decide +kernel
theorem dX1_appendMarkedRuns_39 : decode cX1_appendMarkedRuns 39 = .ok (.iconst 0, 1) := by decide +kernel
theorem dX1_appendMarkedRuns_40 : decode cX1_appendMarkedRuns 40 = .ok (.istore_n 2, 1) := by decide +kernel
theorem dX1_appendMarkedRuns_41 : decode cX1_appendMarkedRuns 41 = .ok (.iinc 3 1, 3) := by decide +kernel
theorem dX1_appendMarkedRuns_44 : decode cX1_appendMarkedRuns 44 = .ok (.goto (-40), 3) := by decide +kernel
theorem dX1_appendMarkedRuns_47 : decode cX1_appendMarkedRuns 47 = .ok (.aload_n 0, 1) := by decide +kernel
theorem dX1_appendMarkedRuns_48 : decode cX1_appendMarkedRuns 48 = .ok (.aload_n 0, 1) := by decide +kernel
theorem dX1_appendMarkedRuns_49 : decode cX1_appendMarkedRuns 49 = .ok (.getfield 29, 3) := by decide +kernel
theorem dX1_appendMarkedRuns_52 : decode cX1_appendMarkedRuns 52 = .ok (.bipush 32, 2) := by decide +kernel
theorem dX1_appendMarkedRuns_54 : decode cX1_appendMarkedRuns 54 = .ok (.iadd, 1) := by decide +kernel
theorem dX1_appendMarkedRuns_55 : decode cX1_appendMarkedRuns 55 = .ok (.iload_n 2, 1) := by decide +kernel
theorem dX1_appendMarkedRuns_56 : decode cX1_appendMarkedRuns 56 = .ok (.isub, 1) := by decide +kernel
theorem dX1_appendMarkedRuns_57 : decode cX1_appendMarkedRuns 57 = .ok (.iload_n 2, 1) := by decide +kernel
theorem dX1_appendMarkedRuns_58 : decode cX1_appendMarkedRuns 58 = .ok (.iload_n 1, 1) := by decide +kernel
theorem dX1_appendMarkedRuns_59 : decode cX1_appendMarkedRuns 59 = .ok (.invokevirtual 57, 3) := by decide +kernel
theorem dX1_appendMarkedRuns_62 : decode cX1_appendMarkedRuns 62 = .ok (.return_, 1) := by decide +kernel
theorem dX1_append_0 : decode cX1_append 0 = .ok (.iload_n 2, 1) := by decide +kernel
theorem dX1_append_1 : decode cX1_append 1 = .ok (.ifCond .le 53, 3) := by decide +kernel
theorem dX1_append_4 : decode cX1_append 4 = .ok (.aload_n 0, 1) := by decide +kernel
theorem dX1_append_5 : decode cX1_append 5 = .ok (.getfield 22, 3) := by decide +kernel
theorem dX1_append_8 : decode cX1_append 8 = .ok (.invokestatic 32, 3) := by decide +kernel
theorem dX1_append_11 : decode cX1_append 11 = .ok (.ifCond .eq 43, 3) := by decide +kernel
theorem dX1_append_14 : decode cX1_append 14 = .ok (.aload_n 0, 1) := by decide +kernel
theorem dX1_append_15 : decode cX1_append 15 = .ok (.getfield 9, 3) := by decide +kernel
theorem dX1_append_18 : decode cX1_append 18 = .ok (.aload_n 0, 1) := by decide +kernel
theorem dX1_append_19 : decode cX1_append 19 = .ok (.getfield 22, 3) := by decide +kernel
theorem dX1_append_22 : decode cX1_append 22 = .ok (.iload_n 1, 1) := by decide +kernel
theorem dX1_append_23 : decode cX1_append 23 = .ok (.iastore, 1) := by decide +kernel
theorem dX1_append_24 : decode cX1_append 24 = .ok (.aload_n 0, 1) := by decide +kernel
theorem dX1_append_25 : decode cX1_append 25 = .ok (.getfield 15, 3) := by decide +kernel
theorem dX1_append_28 : decode cX1_append 28 = .ok (.aload_n 0, 1) := by decide +kernel
theorem dX1_append_29 : decode cX1_append 29 = .ok (.getfield 22, 3) := by decide +kernel
theorem dX1_append_32 : decode cX1_append 32 = .ok (.iload_n 2, 1) := by decide +kernel
theorem dX1_append_33 : decode cX1_append 33 = .ok (.iastore, 1) := by decide +kernel
theorem dX1_append_34 : decode cX1_append 34 = .ok (.aload_n 0, 1) := by decide +kernel
theorem dX1_append_35 : decode cX1_append 35 = .ok (.getfield 18, 3) := by decide +kernel
theorem dX1_append_38 : decode cX1_append 38 = .ok (.aload_n 0, 1) := by decide +kernel
theorem dX1_append_39 : decode cX1_append 39 = .ok (.getfield 22, 3) := by decide +kernel
theorem dX1_append_42 : decode cX1_append 42 = .ok (.iload_n 3, 1) := by decide +kernel
theorem dX1_append_43 : decode cX1_append 43 = .ok (.bastore, 1) := by decide +kernel
theorem dX1_append_44 : decode cX1_append 44 = .ok (.aload_n 0, 1) := by decide +kernel
theorem dX1_append_45 : decode cX1_append 45 = .ok (.dup, 1) := by decide +kernel
theorem dX1_append_46 : decode cX1_append 46 = .ok (.getfield 22, 3) := by decide +kernel
theorem dX1_append_49 : decode cX1_append 49 = .ok (.iconst 1, 1) := by decide +kernel
theorem dX1_append_50 : decode cX1_append 50 = .ok (.iadd, 1) := by decide +kernel
theorem dX1_append_51 : decode cX1_append 51 = .ok (.putfield 22, 3) := by decide +kernel
theorem dX1_append_54 : decode cX1_append 54 = .ok (.return_, 1) := by decide +kernel
theorem dX1_countReplayed_0 : decode cX1_countReplayed 0 = .ok (.iconst 0, 1) := by decide +kernel
theorem dX1_countReplayed_1 : decode cX1_countReplayed 1 = .ok (.istore_n 1, 1) := by decide +kernel
theorem dX1_countReplayed_2 : decode cX1_countReplayed 2 = .ok (.iload_n 1, 1) := by decide +kernel
theorem dX1_countReplayed_3 : decode cX1_countReplayed 3 = .ok (.bipush 32, 2) := by decide +kernel
theorem dX1_countReplayed_5 : decode cX1_countReplayed 5 = .ok (.if_icmp .ge 16, 3) := by decide +kernel
theorem dX1_countReplayed_8 : decode cX1_countReplayed 8 = .ok (.aload_n 0, 1) := by decide +kernel
theorem dX1_countReplayed_9 : decode cX1_countReplayed 9 = .ok (.getfield 26, 3) := by decide +kernel
theorem dX1_countReplayed_12 : decode cX1_countReplayed 12 = .ok (.iload_n 1, 1) := by decide +kernel
theorem dX1_countReplayed_13 : decode cX1_countReplayed 13 = .ok (.iconst 0, 1) := by decide +kernel
theorem dX1_countReplayed_14 : decode cX1_countReplayed 14 = .ok (.bastore, 1) := by decide +kernel
theorem dX1_countReplayed_15 : decode cX1_countReplayed 15 = .ok (.iinc 1 1, 3) := by decide +kernel
theorem dX1_countReplayed_18 : decode cX1_countReplayed 18 = .ok (.goto (-16), 3) := by decide +kernel
theorem dX1_countReplayed_21 : decode cX1_countReplayed 21 = .ok (.iconst 0, 1) := by decide +kernel
theorem dX1_countReplayed_22 : decode cX1_countReplayed 22 = .ok (.istore_n 1, 1) := by decide +kernel
theorem dX1_countReplayed_23 : decode cX1_countReplayed 23 = .ok (.iload_n 1, 1) := by decide +kernel
theorem dX1_countReplayed_24 : decode cX1_countReplayed 24 = .ok (.aload_n 0, 1) := by decide +kernel
theorem dX1_countReplayed_25 : decode cX1_countReplayed 25 = .ok (.getfield 22, 3) := by decide +kernel
theorem dX1_countReplayed_28 : decode cX1_countReplayed 28 = .ok (.if_icmp .ge 14, 3) := by decide +kernel
theorem dX1_countReplayed_31 : decode cX1_countReplayed 31 = .ok (.aload_n 0, 1) := by decide +kernel
theorem dX1_countReplayed_32 : decode cX1_countReplayed 32 = .ok (.iload_n 1, 1) := by decide +kernel
theorem dX1_countReplayed_33 : decode cX1_countReplayed 33 = .ok (.invokevirtual 61, 3) := by decide +kernel
theorem dX1_countReplayed_36 : decode cX1_countReplayed 36 = .ok (.iinc 1 1, 3) := by decide +kernel
theorem dX1_countReplayed_39 : decode cX1_countReplayed 39 = .ok (.goto (-16), 3) := by decide +kernel
theorem dX1_countReplayed_42 : decode cX1_countReplayed 42 = .ok (.iconst 0, 1) := by decide +kernel
theorem dX1_countReplayed_43 : decode cX1_countReplayed 43 = .ok (.istore_n 1, 1) := by decide +kernel
theorem dX1_countReplayed_44 : decode cX1_countReplayed 44 = .ok (.iconst 0, 1) := by decide +kernel
theorem dX1_countReplayed_45 : decode cX1_countReplayed 45 = .ok (.istore_n 2, 1) := by decide +kernel
theorem dX1_countReplayed_46 : decode cX1_countReplayed 46 = .ok (.iload_n 2, 1) := by decide +kernel
theorem dX1_countReplayed_47 : decode cX1_countReplayed 47 = .ok (.bipush 32, 2) := by decide +kernel
theorem dX1_countReplayed_49 : decode cX1_countReplayed 49 = .ok (.if_icmp .ge 21, 3) := by decide +kernel
theorem dX1_countReplayed_52 : decode cX1_countReplayed 52 = .ok (.aload_n 0, 1) := by decide +kernel
theorem dX1_countReplayed_53 : decode cX1_countReplayed 53 = .ok (.getfield 26, 3) := by decide +kernel
theorem dX1_countReplayed_56 : decode cX1_countReplayed 56 = .ok (.iload_n 2, 1) := by decide +kernel
theorem dX1_countReplayed_57 : decode cX1_countReplayed 57 = .ok (.baload, 1) := by decide +kernel
theorem dX1_countReplayed_58 : decode cX1_countReplayed 58 = .ok (.ifCond .eq 6, 3) := by decide +kernel
theorem dX1_countReplayed_61 : decode cX1_countReplayed 61 = .ok (.iinc 1 1, 3) := by decide +kernel
theorem dX1_countReplayed_64 : decode cX1_countReplayed 64 = .ok (.iinc 2 1, 3) := by decide +kernel
theorem dX1_countReplayed_67 : decode cX1_countReplayed 67 = .ok (.goto (-21), 3) := by decide +kernel
theorem dX1_countReplayed_70 : decode cX1_countReplayed 70 = .ok (.iload_n 1, 1) := by decide +kernel
theorem dX1_countReplayed_71 : decode cX1_countReplayed 71 = .ok (.ireturn, 1) := by decide +kernel
theorem dX1_replayEntry_0 : decode cX1_replayEntry 0 = .ok (.aload_n 0, 1) := by decide +kernel
theorem dX1_replayEntry_1 : decode cX1_replayEntry 1 = .ok (.iload_n 1, 1) := by decide +kernel
theorem dX1_replayEntry_2 : decode cX1_replayEntry 2 = .ok (.invokevirtual 65, 3) := by decide +kernel
theorem dX1_replayEntry_5 : decode cX1_replayEntry 5 = .ok (.aload_n 0, 1) := by decide +kernel
theorem dX1_replayEntry_6 : decode cX1_replayEntry 6 = .ok (.getfield 29, 3) := by decide +kernel
theorem dX1_replayEntry_9 : decode cX1_replayEntry 9 = .ok (.isub, 1) := by decide +kernel
theorem dX1_replayEntry_10 : decode cX1_replayEntry 10 = .ok (.istore_n 2, 1) := by decide +kernel
theorem dX1_replayEntry_11 : decode cX1_replayEntry 11 = .ok (.iload_n 2, 1) := by decide +kernel
theorem dX1_replayEntry_12 : decode cX1_replayEntry 12 = .ok (.aload_n 0, 1) := by decide +kernel
theorem dX1_replayEntry_13 : decode cX1_replayEntry 13 = .ok (.iload_n 1, 1) := by decide +kernel
theorem dX1_replayEntry_14 : decode cX1_replayEntry 14 = .ok (.invokevirtual 69, 3) := by decide +kernel
theorem dX1_replayEntry_17 : decode cX1_replayEntry 17 = .ok (.iadd, 1) := by decide +kernel
theorem dX1_replayEntry_18 : decode cX1_replayEntry 18 = .ok (.istore_n 3, 1) := by decide +kernel
theorem dX1_replayEntry_19 : decode cX1_replayEntry 19 = .ok (.iload_n 2, 1) := by decide +kernel
theorem dX1_replayEntry_20 : decode cX1_replayEntry 20 = .ok (.istore 4, 2) := by decide +kernel
theorem dX1_replayEntry_22 : decode cX1_replayEntry 22 = .ok (.iload 4, 2) := by decide +kernel
theorem dX1_replayEntry_24 : decode cX1_replayEntry 24 = .ok (.iload_n 3, 1) := by decide +kernel
theorem dX1_replayEntry_25 : decode cX1_replayEntry 25 = .ok (.if_icmp .ge 33, 3) := by decide +kernel
theorem dX1_replayEntry_28 : decode cX1_replayEntry 28 = .ok (.iload 4, 2) := by decide +kernel
theorem dX1_replayEntry_30 : decode cX1_replayEntry 30 = .ok (.ifCond .lt 22, 3) := by decide +kernel
theorem dX1_replayEntry_33 : decode cX1_replayEntry 33 = .ok (.iload 4, 2) := by decide +kernel
theorem dX1_replayEntry_35 : decode cX1_replayEntry 35 = .ok (.bipush 32, 2) := by decide +kernel
theorem dX1_replayEntry_37 : decode cX1_replayEntry 37 = .ok (.if_icmp .ge 15, 3) := by decide +kernel
theorem dX1_replayEntry_40 : decode cX1_replayEntry 40 = .ok (.aload_n 0, 1) := by decide +kernel
theorem dX1_replayEntry_41 : decode cX1_replayEntry 41 = .ok (.getfield 26, 3) := by decide +kernel
theorem dX1_replayEntry_44 : decode cX1_replayEntry 44 = .ok (.iload 4, 2) := by decide +kernel
theorem dX1_replayEntry_46 : decode cX1_replayEntry 46 = .ok (.aload_n 0, 1) := by decide +kernel
theorem dX1_replayEntry_47 : decode cX1_replayEntry 47 = .ok (.iload_n 1, 1) := by decide +kernel
theorem dX1_replayEntry_48 : decode cX1_replayEntry 48 = .ok (.invokevirtual 72, 3) := by decide +kernel
theorem dX1_replayEntry_51 : decode cX1_replayEntry 51 = .ok (.bastore, 1) := by decide +kernel
theorem dX1_replayEntry_52 : decode cX1_replayEntry 52 = .ok (.iinc 4 1, 3) := by decide +kernel
theorem dX1_replayEntry_55 : decode cX1_replayEntry 55 = .ok (.goto (-33), 3) := by decide +kernel
theorem dX1_replayEntry_58 : decode cX1_replayEntry 58 = .ok (.return_, 1) := by decide +kernel
theorem dX1_copyFrom_0 : decode cX1_copyFrom 0 = .ok (.aload_n 0, 1) := by decide +kernel
theorem dX1_copyFrom_1 : decode cX1_copyFrom 1 = .ok (.aload_n 1, 1) := by decide +kernel
theorem dX1_copyFrom_2 : decode cX1_copyFrom 2 = .ok (.getfield 22, 3) := by decide +kernel
theorem dX1_copyFrom_5 : decode cX1_copyFrom 5 = .ok (.putfield 22, 3) := by decide +kernel
theorem dX1_copyFrom_8 : decode cX1_copyFrom 8 = .ok (.iconst 0, 1) := by decide +kernel
theorem dX1_copyFrom_9 : decode cX1_copyFrom 9 = .ok (.istore_n 2, 1) := by decide +kernel
theorem dX1_copyFrom_10 : decode cX1_copyFrom 10 = .ok (.iload_n 2, 1) := by decide +kernel
theorem dX1_copyFrom_11 : decode cX1_copyFrom 11 = .ok (.aload_n 0, 1) := by decide +kernel
theorem dX1_copyFrom_12 : decode cX1_copyFrom 12 = .ok (.getfield 22, 3) := by decide +kernel
theorem dX1_copyFrom_15 : decode cX1_copyFrom 15 = .ok (.if_icmp .ge 51, 3) := by decide +kernel
theorem dX1_copyFrom_18 : decode cX1_copyFrom 18 = .ok (.iload_n 2, 1) := by decide +kernel
theorem dX1_copyFrom_19 : decode cX1_copyFrom 19 = .ok (.bipush 66, 2) := by decide +kernel
theorem dX1_copyFrom_21 : decode cX1_copyFrom 21 = .ok (.if_icmp .ge 45, 3) := by decide +kernel
theorem dX1_copyFrom_24 : decode cX1_copyFrom 24 = .ok (.aload_n 0, 1) := by decide +kernel
theorem dX1_copyFrom_25 : decode cX1_copyFrom 25 = .ok (.getfield 9, 3) := by decide +kernel
theorem dX1_copyFrom_28 : decode cX1_copyFrom 28 = .ok (.iload_n 2, 1) := by decide +kernel
theorem dX1_copyFrom_29 : decode cX1_copyFrom 29 = .ok (.aload_n 1, 1) := by decide +kernel
theorem dX1_copyFrom_30 : decode cX1_copyFrom 30 = .ok (.getfield 9, 3) := by decide +kernel
theorem dX1_copyFrom_33 : decode cX1_copyFrom 33 = .ok (.iload_n 2, 1) := by decide +kernel
theorem dX1_copyFrom_34 : decode cX1_copyFrom 34 = .ok (.iaload, 1) := by decide +kernel
theorem dX1_copyFrom_35 : decode cX1_copyFrom 35 = .ok (.iastore, 1) := by decide +kernel
theorem dX1_copyFrom_36 : decode cX1_copyFrom 36 = .ok (.aload_n 0, 1) := by decide +kernel
theorem dX1_copyFrom_37 : decode cX1_copyFrom 37 = .ok (.getfield 15, 3) := by decide +kernel
theorem dX1_copyFrom_40 : decode cX1_copyFrom 40 = .ok (.iload_n 2, 1) := by decide +kernel
theorem dX1_copyFrom_41 : decode cX1_copyFrom 41 = .ok (.aload_n 1, 1) := by decide +kernel
theorem dX1_copyFrom_42 : decode cX1_copyFrom 42 = .ok (.getfield 15, 3) := by decide +kernel
theorem dX1_copyFrom_45 : decode cX1_copyFrom 45 = .ok (.iload_n 2, 1) := by decide +kernel
theorem dX1_copyFrom_46 : decode cX1_copyFrom 46 = .ok (.iaload, 1) := by decide +kernel
theorem dX1_copyFrom_47 : decode cX1_copyFrom 47 = .ok (.iastore, 1) := by decide +kernel
theorem dX1_copyFrom_48 : decode cX1_copyFrom 48 = .ok (.aload_n 0, 1) := by decide +kernel
theorem dX1_copyFrom_49 : decode cX1_copyFrom 49 = .ok (.getfield 18, 3) := by decide +kernel
theorem dX1_copyFrom_52 : decode cX1_copyFrom 52 = .ok (.iload_n 2, 1) := by decide +kernel
theorem dX1_copyFrom_53 : decode cX1_copyFrom 53 = .ok (.aload_n 1, 1) := by decide +kernel
theorem dX1_copyFrom_54 : decode cX1_copyFrom 54 = .ok (.getfield 18, 3) := by decide +kernel
theorem dX1_copyFrom_57 : decode cX1_copyFrom 57 = .ok (.iload_n 2, 1) := by decide +kernel
theorem dX1_copyFrom_58 : decode cX1_copyFrom 58 = .ok (.baload, 1) := by decide +kernel
theorem dX1_copyFrom_59 : decode cX1_copyFrom 59 = .ok (.bastore, 1) := by decide +kernel
theorem dX1_copyFrom_60 : decode cX1_copyFrom 60 = .ok (.iinc 2 1, 3) := by decide +kernel
theorem dX1_copyFrom_63 : decode cX1_copyFrom 63 = .ok (.goto (-53), 3) := by decide +kernel
theorem dX1_copyFrom_66 : decode cX1_copyFrom 66 = .ok (.return_, 1) := by decide +kernel
theorem dX2_init_0 : decode cX2_init 0 = .ok (.aload_n 0, 1) := by decide +kernel
theorem dX2_init_1 : decode cX2_init 1 = .ok (.invokespecial 3, 3) := by decide +kernel
theorem dX2_init_4 : decode cX2_init 4 = .ok (.aload_n 0, 1) := by decide +kernel
theorem dX2_init_5 : decode cX2_init 5 = .ok (.new 9, 3) := by decide +kernel
theorem dX2_init_8 : decode cX2_init 8 = .ok (.dup, 1) := by decide +kernel
theorem dX2_init_9 : decode cX2_init 9 = .ok (.invokespecial 11, 3) := by decide +kernel
theorem dX2_init_12 : decode cX2_init 12 = .ok (.putfield 12, 3) := by decide +kernel
theorem dX2_init_15 : decode cX2_init 15 = .ok (.aload_n 0, 1) := by decide +kernel
theorem dX2_init_16 : decode cX2_init 16 = .ok (.iconst 0, 1) := by decide +kernel
theorem dX2_init_17 : decode cX2_init 17 = .ok (.putfield 18, 3) := by decide +kernel
theorem dX2_init_20 : decode cX2_init 20 = .ok (.aload_n 0, 1) := by decide +kernel
theorem dX2_init_21 : decode cX2_init 21 = .ok (.iconst (-1), 1) := by decide +kernel
theorem dX2_init_22 : decode cX2_init 22 = .ok (.putfield 22, 3) := by decide +kernel
theorem dX2_init_25 : decode cX2_init 25 = .ok (.aload_n 0, 1) := by decide +kernel
theorem dX2_init_26 : decode cX2_init 26 = .ok (.iconst (-1), 1) := by decide +kernel
theorem dX2_init_27 : decode cX2_init 27 = .ok (.putfield 26, 3) := by decide +kernel
theorem dX2_init_30 : decode cX2_init 30 = .ok (.aload_n 0, 1) := by decide +kernel
theorem dX2_init_31 : decode cX2_init 31 = .ok (.iconst 0, 1) := by decide +kernel
theorem dX2_init_32 : decode cX2_init 32 = .ok (.putfield 29, 3) := by decide +kernel
theorem dX2_init_35 : decode cX2_init 35 = .ok (.aload_n 0, 1) := by decide +kernel
theorem dX2_init_36 : decode cX2_init 36 = .ok (.iconst 0, 1) := by decide +kernel
theorem dX2_init_37 : decode cX2_init 37 = .ok (.putfield 32, 3) := by decide +kernel
theorem dX2_init_40 : decode cX2_init 40 = .ok (.return_, 1) := by decide +kernel
theorem dX2_belongsTo_0 : decode cX2_belongsTo 0 = .ok (.aload_n 0, 1) := by decide +kernel
theorem dX2_belongsTo_1 : decode cX2_belongsTo 1 = .ok (.getfield 18, 3) := by decide +kernel
theorem dX2_belongsTo_4 : decode cX2_belongsTo 4 = .ok (.ifCond .eq 15, 3) := by decide +kernel
theorem dX2_belongsTo_7 : decode cX2_belongsTo 7 = .ok (.aload_n 0, 1) := by decide +kernel
theorem dX2_belongsTo_8 : decode cX2_belongsTo 8 = .ok (.getfield 26, 3) := by decide +kernel
theorem dX2_belongsTo_11 : decode cX2_belongsTo 11 = .ok (.iload_n 1, 1) := by decide +kernel
theorem dX2_belongsTo_12 : decode cX2_belongsTo 12 = .ok (.if_icmp .ne 7, 3) := by decide +kernel
theorem dX2_belongsTo_15 : decode cX2_belongsTo 15 = .ok (.iconst 1, 1) := by decide +kernel
theorem dX2_belongsTo_16 : decode cX2_belongsTo 16 = .ok (.goto 4, 3) := by decide +kernel
theorem dX2_belongsTo_19 : decode cX2_belongsTo 19 = .ok (.iconst 0, 1) := by decide +kernel
theorem dX2_belongsTo_20 : decode cX2_belongsTo 20 = .ok (.ireturn, 1) := by decide +kernel
theorem dX2_copyFrom_0 : decode cX2_copyFrom 0 = .ok (.aload_n 0, 1) := by decide +kernel
theorem dX2_copyFrom_1 : decode cX2_copyFrom 1 = .ok (.getfield 12, 3) := by decide +kernel
theorem dX2_copyFrom_4 : decode cX2_copyFrom 4 = .ok (.aload_n 1, 1) := by decide +kernel
theorem dX2_copyFrom_5 : decode cX2_copyFrom 5 = .ok (.getfield 12, 3) := by decide +kernel
theorem dX2_copyFrom_8 : decode cX2_copyFrom 8 = .ok (.invokevirtual 35, 3) := by decide +kernel
theorem dX2_copyFrom_11 : decode cX2_copyFrom 11 = .ok (.aload_n 0, 1) := by decide +kernel
theorem dX2_copyFrom_12 : decode cX2_copyFrom 12 = .ok (.aload_n 1, 1) := by decide +kernel
theorem dX2_copyFrom_13 : decode cX2_copyFrom 13 = .ok (.getfield 18, 3) := by decide +kernel
theorem dX2_copyFrom_16 : decode cX2_copyFrom 16 = .ok (.putfield 18, 3) := by decide +kernel
theorem dX2_copyFrom_19 : decode cX2_copyFrom 19 = .ok (.aload_n 0, 1) := by decide +kernel
theorem dX2_copyFrom_20 : decode cX2_copyFrom 20 = .ok (.aload_n 1, 1) := by decide +kernel
theorem dX2_copyFrom_21 : decode cX2_copyFrom 21 = .ok (.getfield 22, 3) := by decide +kernel
theorem dX2_copyFrom_24 : decode cX2_copyFrom 24 = .ok (.putfield 22, 3) := by decide +kernel
theorem dX2_copyFrom_27 : decode cX2_copyFrom 27 = .ok (.aload_n 0, 1) := by decide +kernel
theorem dX2_copyFrom_28 : decode cX2_copyFrom 28 = .ok (.aload_n 1, 1) := by decide +kernel
theorem dX2_copyFrom_29 : decode cX2_copyFrom 29 = .ok (.getfield 26, 3) := by decide +kernel
theorem dX2_copyFrom_32 : decode cX2_copyFrom 32 = .ok (.putfield 26, 3) := by decide +kernel
theorem dX2_copyFrom_35 : decode cX2_copyFrom 35 = .ok (.aload_n 0, 1) := by decide +kernel
theorem dX2_copyFrom_36 : decode cX2_copyFrom 36 = .ok (.aload_n 1, 1) := by decide +kernel
theorem dX2_copyFrom_37 : decode cX2_copyFrom 37 = .ok (.getfield 29, 3) := by decide +kernel
theorem dX2_copyFrom_40 : decode cX2_copyFrom 40 = .ok (.putfield 29, 3) := by decide +kernel
theorem dX2_copyFrom_43 : decode cX2_copyFrom 43 = .ok (.aload_n 0, 1) := by decide +kernel
theorem dX2_copyFrom_44 : decode cX2_copyFrom 44 = .ok (.aload_n 1, 1) := by decide +kernel
theorem dX2_copyFrom_45 : decode cX2_copyFrom 45 = .ok (.getfield 32, 3) := by decide +kernel
theorem dX2_copyFrom_48 : decode cX2_copyFrom 48 = .ok (.putfield 32, 3) := by decide +kernel
theorem dX2_copyFrom_51 : decode cX2_copyFrom 51 = .ok (.return_, 1) := by decide +kernel
theorem dX3_init_0 : decode cX3_init 0 = .ok (.aload_n 0, 1) := by decide +kernel
theorem dX3_init_1 : decode cX3_init 1 = .ok (.invokespecial 3, 3) := by decide +kernel
theorem dX3_init_4 : decode cX3_init 4 = .ok (.aload_n 0, 1) := by decide +kernel
theorem dX3_init_5 : decode cX3_init 5 = .ok (.sipush 128, 3) := by decide +kernel
theorem dX3_init_8 : decode cX3_init 8 = .ok (.newarray .int, 2) := by decide +kernel
theorem dX3_init_10 : decode cX3_init 10 = .ok (.putfield 9, 3) := by decide +kernel
theorem dX3_init_13 : decode cX3_init 13 = .ok (.aload_n 0, 1) := by decide +kernel
theorem dX3_init_14 : decode cX3_init 14 = .ok (.sipush 128, 3) := by decide +kernel
theorem dX3_init_17 : decode cX3_init 17 = .ok (.newarray .int, 2) := by decide +kernel
theorem dX3_init_19 : decode cX3_init 19 = .ok (.putfield 15, 3) := by decide +kernel
theorem dX3_init_22 : decode cX3_init 22 = .ok (.aload_n 0, 1) := by decide +kernel
theorem dX3_init_23 : decode cX3_init 23 = .ok (.sipush 128, 3) := by decide +kernel
theorem dX3_init_26 : decode cX3_init 26 = .ok (.newarray .int, 2) := by decide +kernel
theorem dX3_init_28 : decode cX3_init 28 = .ok (.putfield 18, 3) := by decide +kernel
theorem dX3_init_31 : decode cX3_init 31 = .ok (.aload_n 0, 1) := by decide +kernel
theorem dX3_init_32 : decode cX3_init 32 = .ok (.sipush 128, 3) := by decide +kernel
theorem dX3_init_35 : decode cX3_init 35 = .ok (.newarray .int, 2) := by decide +kernel
theorem dX3_init_37 : decode cX3_init 37 = .ok (.putfield 21, 3) := by decide +kernel
theorem dX3_init_40 : decode cX3_init 40 = .ok (.return_, 1) := by decide +kernel
theorem dX3_isBlock_0 : decode cX3_isBlock 0 = .ok (.iload_n 0, 1) := by decide +kernel
theorem dX3_isBlock_1 : decode cX3_isBlock 1 = .ok (.ifCond .lt 14, 3) := by decide +kernel
theorem dX3_isBlock_4 : decode cX3_isBlock 4 = .ok (.iload_n 0, 1) := by decide +kernel
theorem dX3_isBlock_5 : decode cX3_isBlock 5 = .ok (.sipush 128, 3) := by decide +kernel
theorem dX3_isBlock_8 : decode cX3_isBlock 8 = .ok (.if_icmp .ge 7, 3) := by decide +kernel
theorem dX3_isBlock_11 : decode cX3_isBlock 11 = .ok (.iconst 1, 1) := by decide +kernel
theorem dX3_isBlock_12 : decode cX3_isBlock 12 = .ok (.goto 4, 3) := by decide +kernel
theorem dX3_isBlock_15 : decode cX3_isBlock 15 = .ok (.iconst 0, 1) := by decide +kernel
theorem dX3_isBlock_16 : decode cX3_isBlock 16 = .ok (.ireturn, 1) := by decide +kernel
theorem dX3_isAllocated_0 : decode cX3_isAllocated 0 = .ok (.iload_n 1, 1) := by decide +kernel
theorem dX3_isAllocated_1 : decode cX3_isAllocated 1 = .ok (.invokestatic 24, 3) := by decide +kernel
theorem dX3_isAllocated_4 : decode cX3_isAllocated 4 = .ok (.ifCond .eq 17, 3) := by decide +kernel
theorem dX3_isAllocated_7 : decode cX3_isAllocated 7 = .ok (.aload_n 0, 1) := by decide +kernel
theorem dX3_isAllocated_8 : decode cX3_isAllocated 8 = .ok (.getfield 9, 3) := by decide +kernel
theorem dX3_isAllocated_11 : decode cX3_isAllocated 11 = .ok (.iload_n 1, 1) := by decide +kernel
theorem dX3_isAllocated_12 : decode cX3_isAllocated 12 = .ok (.iaload, 1) := by decide +kernel
theorem dX3_isAllocated_13 : decode cX3_isAllocated 13 = .ok (.iconst 1, 1) := by decide +kernel
theorem dX3_isAllocated_14 : decode cX3_isAllocated 14 = .ok (.if_icmp .ne 7, 3) := by decide +kernel
theorem dX3_isAllocated_17 : decode cX3_isAllocated 17 = .ok (.iconst 1, 1) := by decide +kernel
theorem dX3_isAllocated_18 : decode cX3_isAllocated 18 = .ok (.goto 4, 3) := by decide +kernel
theorem dX3_isAllocated_21 : decode cX3_isAllocated 21 = .ok (.iconst 0, 1) := by decide +kernel
theorem dX3_isAllocated_22 : decode cX3_isAllocated 22 = .ok (.ireturn, 1) := by decide +kernel
theorem dX3_valueOf_0 : decode cX3_valueOf 0 = .ok (.iload_n 1, 1) := by decide +kernel
theorem dX3_valueOf_1 : decode cX3_valueOf 1 = .ok (.invokestatic 24, 3) := by decide +kernel
theorem dX3_valueOf_4 : decode cX3_valueOf 4 = .ok (.ifCond .eq 12, 3) := by decide +kernel
theorem dX3_valueOf_7 : decode cX3_valueOf 7 = .ok (.aload_n 0, 1) := by decide +kernel
theorem dX3_valueOf_8 : decode cX3_valueOf 8 = .ok (.getfield 15, 3) := by decide +kernel
theorem dX3_valueOf_11 : decode cX3_valueOf 11 = .ok (.iload_n 1, 1) := by decide +kernel
theorem dX3_valueOf_12 : decode cX3_valueOf 12 = .ok (.iaload, 1) := by decide +kernel
theorem dX3_valueOf_13 : decode cX3_valueOf 13 = .ok (.goto 4, 3) := by decide +kernel
theorem dX3_valueOf_16 : decode cX3_valueOf 16 = .ok (.iconst 0, 1) := by decide +kernel
theorem dX3_valueOf_17 : decode cX3_valueOf 17 = .ok (.ireturn, 1) := by decide +kernel
theorem dX3_setValue_0 : decode cX3_setValue 0 = .ok (.iload_n 1, 1) := by decide +kernel
theorem dX3_setValue_1 : decode cX3_setValue 1 = .ok (.invokestatic 24, 3) := by decide +kernel
theorem dX3_setValue_4 : decode cX3_setValue 4 = .ok (.ifCond .eq 10, 3) := by decide +kernel
theorem dX3_setValue_7 : decode cX3_setValue 7 = .ok (.aload_n 0, 1) := by decide +kernel
theorem dX3_setValue_8 : decode cX3_setValue 8 = .ok (.getfield 15, 3) := by decide +kernel
theorem dX3_setValue_11 : decode cX3_setValue 11 = .ok (.iload_n 1, 1) := by decide +kernel
theorem dX3_setValue_12 : decode cX3_setValue 12 = .ok (.iload_n 2, 1) := by decide +kernel
theorem dX3_setValue_13 : decode cX3_setValue 13 = .ok (.iastore, 1) := by decide +kernel
theorem dX3_setValue_14 : decode cX3_setValue 14 = .ok (.return_, 1) := by decide +kernel
theorem dX3_birthOf_0 : decode cX3_birthOf 0 = .ok (.iload_n 1, 1) := by decide +kernel
theorem dX3_birthOf_1 : decode cX3_birthOf 1 = .ok (.invokestatic 24, 3) := by decide +kernel
theorem dX3_birthOf_4 : decode cX3_birthOf 4 = .ok (.ifCond .eq 12, 3) := by decide +kernel
theorem dX3_birthOf_7 : decode cX3_birthOf 7 = .ok (.aload_n 0, 1) := by decide +kernel
theorem dX3_birthOf_8 : decode cX3_birthOf 8 = .ok (.getfield 18, 3) := by decide +kernel
theorem dX3_birthOf_11 : decode cX3_birthOf 11 = .ok (.iload_n 1, 1) := by decide +kernel
theorem dX3_birthOf_12 : decode cX3_birthOf 12 = .ok (.iaload, 1) := by decide +kernel
theorem dX3_birthOf_13 : decode cX3_birthOf 13 = .ok (.goto 4, 3) := by decide +kernel
theorem dX3_birthOf_16 : decode cX3_birthOf 16 = .ok (.iconst 0, 1) := by decide +kernel
theorem dX3_birthOf_17 : decode cX3_birthOf 17 = .ok (.ireturn, 1) := by decide +kernel
theorem dX3_bornIn_0 : decode cX3_bornIn 0 = .ok (.aload_n 0, 1) := by decide +kernel
theorem dX3_bornIn_1 : decode cX3_bornIn 1 = .ok (.iload_n 1, 1) := by decide +kernel
theorem dX3_bornIn_2 : decode cX3_bornIn 2 = .ok (.invokevirtual 28, 3) := by decide +kernel
theorem dX3_bornIn_5 : decode cX3_bornIn 5 = .ok (.ifCond .eq 17, 3) := by decide +kernel
theorem dX3_bornIn_8 : decode cX3_bornIn 8 = .ok (.aload_n 0, 1) := by decide +kernel
theorem dX3_bornIn_9 : decode cX3_bornIn 9 = .ok (.getfield 18, 3) := by decide +kernel
theorem dX3_bornIn_12 : decode cX3_bornIn 12 = .ok (.iload_n 1, 1) := by decide +kernel
theorem dX3_bornIn_13 : decode cX3_bornIn 13 = .ok (.iaload, 1) := by decide +kernel
theorem dX3_bornIn_14 : decode cX3_bornIn 14 = .ok (.iload_n 2, 1) := by decide +kernel
theorem dX3_bornIn_15 : decode cX3_bornIn 15 = .ok (.if_icmp .ne 7, 3) := by decide +kernel
theorem dX3_bornIn_18 : decode cX3_bornIn 18 = .ok (.iconst 1, 1) := by decide +kernel
theorem dX3_bornIn_19 : decode cX3_bornIn 19 = .ok (.goto 4, 3) := by decide +kernel
theorem dX3_bornIn_22 : decode cX3_bornIn 22 = .ok (.iconst 0, 1) := by decide +kernel
theorem dX3_bornIn_23 : decode cX3_bornIn 23 = .ok (.ireturn, 1) := by decide +kernel
theorem dX3_usesOf_0 : decode cX3_usesOf 0 = .ok (.iload_n 1, 1) := by decide +kernel
theorem dX3_usesOf_1 : decode cX3_usesOf 1 = .ok (.invokestatic 24, 3) := by decide +kernel
theorem dX3_usesOf_4 : decode cX3_usesOf 4 = .ok (.ifCond .eq 12, 3) := by decide +kernel
theorem dX3_usesOf_7 : decode cX3_usesOf 7 = .ok (.aload_n 0, 1) := by decide +kernel
theorem dX3_usesOf_8 : decode cX3_usesOf 8 = .ok (.getfield 21, 3) := by decide +kernel
theorem dX3_usesOf_11 : decode cX3_usesOf 11 = .ok (.iload_n 1, 1) := by decide +kernel
theorem dX3_usesOf_12 : decode cX3_usesOf 12 = .ok (.iaload, 1) := by decide +kernel
theorem dX3_usesOf_13 : decode cX3_usesOf 13 = .ok (.goto 4, 3) := by decide +kernel
theorem dX3_usesOf_16 : decode cX3_usesOf 16 = .ok (.iconst 0, 1) := by decide +kernel
theorem dX3_usesOf_17 : decode cX3_usesOf 17 = .ok (.ireturn, 1) := by decide +kernel
theorem dX3_addUse_0 : decode cX3_addUse 0 = .ok (.iload_n 1, 1) := by decide +kernel
theorem dX3_addUse_1 : decode cX3_addUse 1 = .ok (.invokestatic 24, 3) := by decide +kernel
theorem dX3_addUse_4 : decode cX3_addUse 4 = .ok (.ifCond .eq 13, 3) := by decide +kernel
theorem dX3_addUse_7 : decode cX3_addUse 7 = .ok (.aload_n 0, 1) := by decide +kernel
theorem dX3_addUse_8 : decode cX3_addUse 8 = .ok (.getfield 21, 3) := by decide +kernel
theorem dX3_addUse_11 : decode cX3_addUse 11 = .ok (.iload_n 1, 1) := by decide +kernel
theorem dX3_addUse_12 : decode cX3_addUse 12 = .ok (.dup2, 1) := by decide +kernel
theorem dX3_addUse_13 : decode cX3_addUse 13 = .ok (.iaload, 1) := by decide +kernel
theorem dX3_addUse_14 : decode cX3_addUse 14 = .ok (.iconst 1, 1) := by decide +kernel
theorem dX3_addUse_15 : decode cX3_addUse 15 = .ok (.iadd, 1) := by decide +kernel
theorem dX3_addUse_16 : decode cX3_addUse 16 = .ok (.iastore, 1) := by decide +kernel
theorem dX3_addUse_17 : decode cX3_addUse 17 = .ok (.return_, 1) := by decide +kernel
theorem dX3_removeUse_0 : decode cX3_removeUse 0 = .ok (.iload_n 1, 1) := by decide +kernel
theorem dX3_removeUse_1 : decode cX3_removeUse 1 = .ok (.invokestatic 24, 3) := by decide +kernel
theorem dX3_removeUse_4 : decode cX3_removeUse 4 = .ok (.ifCond .eq 13, 3) := by decide +kernel
theorem dX3_removeUse_7 : decode cX3_removeUse 7 = .ok (.aload_n 0, 1) := by decide +kernel
theorem dX3_removeUse_8 : decode cX3_removeUse 8 = .ok (.getfield 21, 3) := by decide +kernel
theorem dX3_removeUse_11 : decode cX3_removeUse 11 = .ok (.iload_n 1, 1) := by decide +kernel
theorem dX3_removeUse_12 : decode cX3_removeUse 12 = .ok (.dup2, 1) := by decide +kernel
theorem dX3_removeUse_13 : decode cX3_removeUse 13 = .ok (.iaload, 1) := by decide +kernel
theorem dX3_removeUse_14 : decode cX3_removeUse 14 = .ok (.iconst 1, 1) := by decide +kernel
theorem dX3_removeUse_15 : decode cX3_removeUse 15 = .ok (.isub, 1) := by decide +kernel
theorem dX3_removeUse_16 : decode cX3_removeUse 16 = .ok (.iastore, 1) := by decide +kernel
theorem dX3_removeUse_17 : decode cX3_removeUse 17 = .ok (.return_, 1) := by decide +kernel
theorem dX3_allocate_0 : decode cX3_allocate 0 = .ok (.iload_n 1, 1) := by decide +kernel
theorem dX3_allocate_1 : decode cX3_allocate 1 = .ok (.invokestatic 24, 3) := by decide +kernel
theorem dX3_allocate_4 : decode cX3_allocate 4 = .ok (.ifCond .eq 24, 3) := by decide +kernel
theorem dX3_allocate_7 : decode cX3_allocate 7 = .ok (.aload_n 0, 1) := by decide +kernel
theorem dX3_allocate_8 : decode cX3_allocate 8 = .ok (.getfield 9, 3) := by decide +kernel
theorem dX3_allocate_11 : decode cX3_allocate 11 = .ok (.iload_n 1, 1) := by decide +kernel
theorem dX3_allocate_12 : decode cX3_allocate 12 = .ok (.iconst 1, 1) := by decide +kernel
theorem dX3_allocate_13 : decode cX3_allocate 13 = .ok (.iastore, 1) := by decide +kernel
theorem dX3_allocate_14 : decode cX3_allocate 14 = .ok (.aload_n 0, 1) := by decide +kernel
theorem dX3_allocate_15 : decode cX3_allocate 15 = .ok (.getfield 15, 3) := by decide +kernel
theorem dX3_allocate_18 : decode cX3_allocate 18 = .ok (.iload_n 1, 1) := by decide +kernel
theorem dX3_allocate_19 : decode cX3_allocate 19 = .ok (.iload_n 2, 1) := by decide +kernel
theorem dX3_allocate_20 : decode cX3_allocate 20 = .ok (.iastore, 1) := by decide +kernel
theorem dX3_allocate_21 : decode cX3_allocate 21 = .ok (.aload_n 0, 1) := by decide +kernel
theorem dX3_allocate_22 : decode cX3_allocate 22 = .ok (.getfield 18, 3) := by decide +kernel
theorem dX3_allocate_25 : decode cX3_allocate 25 = .ok (.iload_n 1, 1) := by decide +kernel
theorem dX3_allocate_26 : decode cX3_allocate 26 = .ok (.iload_n 3, 1) := by decide +kernel
theorem dX3_allocate_27 : decode cX3_allocate 27 = .ok (.iastore, 1) := by decide +kernel
theorem dX3_allocate_28 : decode cX3_allocate 28 = .ok (.return_, 1) := by decide +kernel
theorem dX3_count_0 : decode cX3_count 0 = .ok (.iconst 0, 1) := by decide +kernel
theorem dX3_count_1 : decode cX3_count 1 = .ok (.istore 4, 2) := by decide +kernel
theorem dX3_count_3 : decode cX3_count 3 = .ok (.iload_n 2, 1) := by decide +kernel
theorem dX3_count_4 : decode cX3_count 4 = .ok (.istore 5, 2) := by decide +kernel
theorem dX3_count_6 : decode cX3_count 6 = .ok (.iload 5, 2) := by decide +kernel
theorem dX3_count_8 : decode cX3_count 8 = .ok (.iload_n 3, 1) := by decide +kernel
theorem dX3_count_9 : decode cX3_count 9 = .ok (.if_icmp .ge 31, 3) := by decide +kernel
theorem dX3_count_12 : decode cX3_count 12 = .ok (.iload 5, 2) := by decide +kernel
theorem dX3_count_14 : decode cX3_count 14 = .ok (.invokestatic 24, 3) := by decide +kernel
theorem dX3_count_17 : decode cX3_count 17 = .ok (.ifCond .eq 17, 3) := by decide +kernel
theorem dX3_count_20 : decode cX3_count 20 = .ok (.aload_n 0, 1) := by decide +kernel
theorem dX3_count_21 : decode cX3_count 21 = .ok (.getfield 9, 3) := by decide +kernel
theorem dX3_count_24 : decode cX3_count 24 = .ok (.iload 5, 2) := by decide +kernel
theorem dX3_count_26 : decode cX3_count 26 = .ok (.iaload, 1) := by decide +kernel
theorem dX3_count_27 : decode cX3_count 27 = .ok (.iload_n 1, 1) := by decide +kernel
theorem dX3_count_28 : decode cX3_count 28 = .ok (.if_icmp .ne 6, 3) := by decide +kernel
theorem dX3_count_31 : decode cX3_count 31 = .ok (.iinc 4 1, 3) := by decide +kernel
theorem dX3_count_34 : decode cX3_count 34 = .ok (.iinc 5 1, 3) := by decide +kernel
theorem dX3_count_37 : decode cX3_count 37 = .ok (.goto (-31), 3) := by decide +kernel
theorem dX3_count_40 : decode cX3_count 40 = .ok (.iload 4, 2) := by decide +kernel
theorem dX3_count_42 : decode cX3_count 42 = .ok (.ireturn, 1) := by decide +kernel
theorem dX3_freeInRegion_0 : decode cX3_freeInRegion 0 = .ok (.iload_n 1, 1) := by decide +kernel
theorem dX3_freeInRegion_1 : decode cX3_freeInRegion 1 = .ok (.bipush 32, 2) := by decide +kernel
theorem dX3_freeInRegion_3 : decode cX3_freeInRegion 3 = .ok (.imul, 1) := by decide +kernel
theorem dX3_freeInRegion_4 : decode cX3_freeInRegion 4 = .ok (.istore_n 2, 1) := by decide +kernel
theorem dX3_freeInRegion_5 : decode cX3_freeInRegion 5 = .ok (.aload_n 0, 1) := by decide +kernel
theorem dX3_freeInRegion_6 : decode cX3_freeInRegion 6 = .ok (.iconst 0, 1) := by decide +kernel
theorem dX3_freeInRegion_7 : decode cX3_freeInRegion 7 = .ok (.iload_n 2, 1) := by decide +kernel
theorem dX3_freeInRegion_8 : decode cX3_freeInRegion 8 = .ok (.iload_n 2, 1) := by decide +kernel
theorem dX3_freeInRegion_9 : decode cX3_freeInRegion 9 = .ok (.bipush 32, 2) := by decide +kernel
theorem dX3_freeInRegion_11 : decode cX3_freeInRegion 11 = .ok (.iadd, 1) := by decide +kernel
theorem dX3_freeInRegion_12 : decode cX3_freeInRegion 12 = .ok (.invokevirtual 31, 3) := by decide +kernel
theorem dX3_freeInRegion_15 : decode cX3_freeInRegion 15 = .ok (.ireturn, 1) := by decide +kernel
theorem dX3_emptiestRegion_0 : decode cX3_emptiestRegion 0 = .ok (.iconst 0, 1) := by decide +kernel
theorem dX3_emptiestRegion_1 : decode cX3_emptiestRegion 1 = .ok (.istore_n 1, 1) := by decide +kernel
theorem dX3_emptiestRegion_2 : decode cX3_emptiestRegion 2 = .ok (.iconst (-1), 1) := by decide +kernel
theorem dX3_emptiestRegion_3 : decode cX3_emptiestRegion 3 = .ok (.istore_n 2, 1) := by decide +kernel
theorem dX3_emptiestRegion_4 : decode cX3_emptiestRegion 4 = .ok (.iconst 0, 1) := by decide +kernel
theorem dX3_emptiestRegion_5 : decode cX3_emptiestRegion 5 = .ok (.istore_n 3, 1) := by decide +kernel
theorem dX3_emptiestRegion_6 : decode cX3_emptiestRegion 6 = .ok (.iload_n 3, 1) := by decide +kernel
theorem dX3_emptiestRegion_7 : decode cX3_emptiestRegion 7 = .ok (.iconst 4, 1) := by decide +kernel
theorem dX3_emptiestRegion_8 : decode cX3_emptiestRegion 8 = .ok (.if_icmp .ge 27, 3) := by decide +kernel
theorem dX3_emptiestRegion_11 : decode cX3_emptiestRegion 11 = .ok (.aload_n 0, 1) := by decide +kernel
theorem dX3_emptiestRegion_12 : decode cX3_emptiestRegion 12 = .ok (.iload_n 3, 1) := by decide +kernel
theorem dX3_emptiestRegion_13 : decode cX3_emptiestRegion 13 = .ok (.invokevirtual 35, 3) := by decide +kernel
theorem dX3_emptiestRegion_16 : decode cX3_emptiestRegion 16 = .ok (.istore 4, 2) := by decide +kernel
theorem dX3_emptiestRegion_18 : decode cX3_emptiestRegion 18 = .ok (.iload 4, 2) := by decide +kernel
theorem dX3_emptiestRegion_20 : decode cX3_emptiestRegion 20 = .ok (.iload_n 2, 1) := by decide +kernel
theorem dX3_emptiestRegion_21 : decode cX3_emptiestRegion 21 = .ok (.if_icmp .le 8, 3) := by decide +kernel
theorem dX3_emptiestRegion_24 : decode cX3_emptiestRegion 24 = .ok (.iload_n 3, 1) := by decide +kernel
theorem dX3_emptiestRegion_25 : decode cX3_emptiestRegion 25 = .ok (.istore_n 1, 1) := by decide +kernel
theorem dX3_emptiestRegion_26 : decode cX3_emptiestRegion 26 = .ok (.iload 4, 2) := by decide +kernel
theorem dX3_emptiestRegion_28 : decode cX3_emptiestRegion 28 = .ok (.istore_n 2, 1) := by decide +kernel
theorem dX3_emptiestRegion_29 : decode cX3_emptiestRegion 29 = .ok (.iinc 3 1, 3) := by decide +kernel
theorem dX3_emptiestRegion_32 : decode cX3_emptiestRegion 32 = .ok (.goto (-26), 3) := by decide +kernel
theorem dX3_emptiestRegion_35 : decode cX3_emptiestRegion 35 = .ok (.iload_n 1, 1) := by decide +kernel
theorem dX3_emptiestRegion_36 : decode cX3_emptiestRegion 36 = .ok (.ireturn, 1) := by decide +kernel
theorem dX3_nextFreeBlock_0 : decode cX3_nextFreeBlock 0 = .ok (.aload_n 0, 1) := by decide +kernel
theorem dX3_nextFreeBlock_1 : decode cX3_nextFreeBlock 1 = .ok (.invokevirtual 39, 3) := by decide +kernel
theorem dX3_nextFreeBlock_4 : decode cX3_nextFreeBlock 4 = .ok (.bipush 32, 2) := by decide +kernel
theorem dX3_nextFreeBlock_6 : decode cX3_nextFreeBlock 6 = .ok (.imul, 1) := by decide +kernel
theorem dX3_nextFreeBlock_7 : decode cX3_nextFreeBlock 7 = .ok (.istore_n 1, 1) := by decide +kernel
theorem dX3_nextFreeBlock_8 : decode cX3_nextFreeBlock 8 = .ok (.iload_n 1, 1) := by decide +kernel
theorem dX3_nextFreeBlock_9 : decode cX3_nextFreeBlock 9 = .ok (.istore_n 2, 1) := by decide +kernel
theorem dX3_nextFreeBlock_10 : decode cX3_nextFreeBlock 10 = .ok (.iload_n 2, 1) := by decide +kernel
theorem dX3_nextFreeBlock_11 : decode cX3_nextFreeBlock 11 = .ok (.iload_n 1, 1) := by decide +kernel
theorem dX3_nextFreeBlock_12 : decode cX3_nextFreeBlock 12 = .ok (.bipush 32, 2) := by decide +kernel
theorem dX3_nextFreeBlock_14 : decode cX3_nextFreeBlock 14 = .ok (.iadd, 1) := by decide +kernel
theorem dX3_nextFreeBlock_15 : decode cX3_nextFreeBlock 15 = .ok (.if_icmp .ge 27, 3) := by decide +kernel
theorem dX3_nextFreeBlock_18 : decode cX3_nextFreeBlock 18 = .ok (.iload_n 2, 1) := by decide +kernel
theorem dX3_nextFreeBlock_19 : decode cX3_nextFreeBlock 19 = .ok (.invokestatic 24, 3) := by decide +kernel
theorem dX3_nextFreeBlock_22 : decode cX3_nextFreeBlock 22 = .ok (.ifCond .eq 14, 3) := by decide +kernel
theorem dX3_nextFreeBlock_25 : decode cX3_nextFreeBlock 25 = .ok (.aload_n 0, 1) := by decide +kernel
theorem dX3_nextFreeBlock_26 : decode cX3_nextFreeBlock 26 = .ok (.getfield 9, 3) := by decide +kernel
theorem dX3_nextFreeBlock_29 : decode cX3_nextFreeBlock 29 = .ok (.iload_n 2, 1) := by decide +kernel
theorem dX3_nextFreeBlock_30 : decode cX3_nextFreeBlock 30 = .ok (.iaload, 1) := by decide +kernel
theorem dX3_nextFreeBlock_31 : decode cX3_nextFreeBlock 31 = .ok (.ifCond .ne 5, 3) := by decide +kernel
theorem dX3_nextFreeBlock_34 : decode cX3_nextFreeBlock 34 = .ok (.iload_n 2, 1) := by decide +kernel
theorem dX3_nextFreeBlock_35 : decode cX3_nextFreeBlock 35 = .ok (.ireturn, 1) := by decide +kernel
theorem dX3_nextFreeBlock_36 : decode cX3_nextFreeBlock 36 = .ok (.iinc 2 1, 3) := by decide +kernel
theorem dX3_nextFreeBlock_39 : decode cX3_nextFreeBlock 39 = .ok (.goto (-29), 3) := by decide +kernel
theorem dX3_nextFreeBlock_42 : decode cX3_nextFreeBlock 42 = .ok (.iconst (-1), 1) := by decide +kernel
theorem dX3_nextFreeBlock_43 : decode cX3_nextFreeBlock 43 = .ok (.ireturn, 1) := by decide +kernel
theorem dX3_retireUnused_0 : decode cX3_retireUnused 0 = .ok (.iconst 0, 1) := by decide +kernel
theorem dX3_retireUnused_1 : decode cX3_retireUnused 1 = .ok (.istore_n 2, 1) := by decide +kernel
theorem dX3_retireUnused_2 : decode cX3_retireUnused 2 = .ok (.iconst 0, 1) := by decide +kernel
theorem dX3_retireUnused_3 : decode cX3_retireUnused 3 = .ok (.istore_n 3, 1) := by decide +kernel
theorem dX3_retireUnused_4 : decode cX3_retireUnused 4 = .ok (.iload_n 3, 1) := by decide +kernel
theorem dX3_retireUnused_5 : decode cX3_retireUnused 5 = .ok (.sipush 128, 3) := by decide +kernel
theorem dX3_retireUnused_8 : decode cX3_retireUnused 8 = .ok (.if_icmp .ge 52, 3) := by decide +kernel
theorem dX3_retireUnused_11 : decode cX3_retireUnused 11 = .ok (.aload_n 0, 1) := by decide +kernel
theorem dX3_retireUnused_12 : decode cX3_retireUnused 12 = .ok (.getfield 9, 3) := by decide +kernel
theorem dX3_retireUnused_15 : decode cX3_retireUnused 15 = .ok (.iload_n 3, 1) := by decide +kernel
theorem dX3_retireUnused_16 : decode cX3_retireUnused 16 = .ok (.iaload, 1) := by decide +kernel
theorem dX3_retireUnused_17 : decode cX3_retireUnused 17 = .ok (.iconst 1, 1) := by decide +kernel
theorem dX3_retireUnused_18 : decode cX3_retireUnused 18 = .ok (.if_icmp .ne 36, 3) := by decide +kernel
theorem dX3_retireUnused_21 : decode cX3_retireUnused 21 = .ok (.aload_n 0, 1) := by decide +kernel
theorem dX3_retireUnused_22 : decode cX3_retireUnused 22 = .ok (.getfield 21, 3) := by decide +kernel
theorem dX3_retireUnused_25 : decode cX3_retireUnused 25 = .ok (.iload_n 3, 1) := by decide +kernel
theorem dX3_retireUnused_26 : decode cX3_retireUnused 26 = .ok (.iaload, 1) := by decide +kernel
theorem dX3_retireUnused_27 : decode cX3_retireUnused 27 = .ok (.ifCond .ne 27, 3) := by decide +kernel
theorem dX3_retireUnused_30 : decode cX3_retireUnused 30 = .ok (.aload_n 0, 1) := by decide +kernel
theorem dX3_retireUnused_31 : decode cX3_retireUnused 31 = .ok (.getfield 9, 3) := by decide +kernel
theorem dX3_retireUnused_34 : decode cX3_retireUnused 34 = .ok (.iload_n 3, 1) := by decide +kernel
theorem dX3_retireUnused_35 : decode cX3_retireUnused 35 = .ok (.aload_n 0, 1) := by decide +kernel
theorem dX3_retireUnused_36 : decode cX3_retireUnused 36 = .ok (.getfield 18, 3) := by decide +kernel
theorem dX3_retireUnused_39 : decode cX3_retireUnused 39 = .ok (.iload_n 3, 1) := by decide +kernel
theorem dX3_retireUnused_40 : decode cX3_retireUnused 40 = .ok (.iaload, 1) := by decide +kernel
theorem dX3_retireUnused_41 : decode cX3_retireUnused 41 = .ok (.iload_n 1, 1) := by decide +kernel
theorem dX3_retireUnused_42 : decode cX3_retireUnused 42 = .ok (.if_icmp .ne 7, 3) := by decide +kernel
theorem dX3_retireUnused_45 : decode cX3_retireUnused 45 = .ok (.iconst 0, 1) := by decide +kernel
theorem dX3_retireUnused_46 : decode cX3_retireUnused 46 = .ok (.goto 4, 3) := by decide +kernel
theorem dX3_retireUnused_49 : decode cX3_retireUnused 49 = .ok (.iconst 2, 1) := by decide +kernel
theorem dX3_retireUnused_50 : decode cX3_retireUnused 50 = .ok (.iastore, 1) := by decide +kernel
theorem dX3_retireUnused_51 : decode cX3_retireUnused 51 = .ok (.iinc 2 1, 3) := by decide +kernel
theorem dX3_retireUnused_54 : decode cX3_retireUnused 54 = .ok (.iinc 3 1, 3) := by decide +kernel
theorem dX3_retireUnused_57 : decode cX3_retireUnused 57 = .ok (.goto (-53), 3) := by decide +kernel
theorem dX3_retireUnused_60 : decode cX3_retireUnused 60 = .ok (.iload_n 2, 1) := by decide +kernel
theorem dX3_retireUnused_61 : decode cX3_retireUnused 61 = .ok (.ireturn, 1) := by decide +kernel
theorem dX3_releasePending_0 : decode cX3_releasePending 0 = .ok (.iconst 0, 1) := by decide +kernel
theorem dX3_releasePending_1 : decode cX3_releasePending 1 = .ok (.istore_n 1, 1) := by decide +kernel
theorem dX3_releasePending_2 : decode cX3_releasePending 2 = .ok (.iload_n 1, 1) := by decide +kernel
theorem dX3_releasePending_3 : decode cX3_releasePending 3 = .ok (.sipush 128, 3) := by decide +kernel
theorem dX3_releasePending_6 : decode cX3_releasePending 6 = .ok (.if_icmp .ge 26, 3) := by decide +kernel
theorem dX3_releasePending_9 : decode cX3_releasePending 9 = .ok (.aload_n 0, 1) := by decide +kernel
theorem dX3_releasePending_10 : decode cX3_releasePending 10 = .ok (.getfield 9, 3) := by decide +kernel
theorem dX3_releasePending_13 : decode cX3_releasePending 13 = .ok (.iload_n 1, 1) := by decide +kernel
theorem dX3_releasePending_14 : decode cX3_releasePending 14 = .ok (.iaload, 1) := by decide +kernel
theorem dX3_releasePending_15 : decode cX3_releasePending 15 = .ok (.iconst 2, 1) := by decide +kernel
theorem dX3_releasePending_16 : decode cX3_releasePending 16 = .ok (.if_icmp .ne 10, 3) := by decide +kernel
theorem dX3_releasePending_19 : decode cX3_releasePending 19 = .ok (.aload_n 0, 1) := by decide +kernel
theorem dX3_releasePending_20 : decode cX3_releasePending 20 = .ok (.getfield 9, 3) := by decide +kernel
theorem dX3_releasePending_23 : decode cX3_releasePending 23 = .ok (.iload_n 1, 1) := by decide +kernel
theorem dX3_releasePending_24 : decode cX3_releasePending 24 = .ok (.iconst 0, 1) := by decide +kernel
theorem dX3_releasePending_25 : decode cX3_releasePending 25 = .ok (.iastore, 1) := by decide +kernel
theorem dX3_releasePending_26 : decode cX3_releasePending 26 = .ok (.iinc 1 1, 3) := by decide +kernel
theorem dX3_releasePending_29 : decode cX3_releasePending 29 = .ok (.goto (-27), 3) := by decide +kernel
theorem dX3_releasePending_32 : decode cX3_releasePending 32 = .ok (.return_, 1) := by decide +kernel
theorem dX3_copyFrom_0 : decode cX3_copyFrom 0 = .ok (.aload_n 1, 1) := by decide +kernel
theorem dX3_copyFrom_1 : decode cX3_copyFrom 1 = .ok (.getfield 9, 3) := by decide +kernel
theorem dX3_copyFrom_4 : decode cX3_copyFrom 4 = .ok (.iconst 0, 1) := by decide +kernel
theorem dX3_copyFrom_5 : decode cX3_copyFrom 5 = .ok (.aload_n 0, 1) := by decide +kernel
theorem dX3_copyFrom_6 : decode cX3_copyFrom 6 = .ok (.getfield 9, 3) := by decide +kernel
theorem dX3_copyFrom_9 : decode cX3_copyFrom 9 = .ok (.iconst 0, 1) := by decide +kernel
theorem dX3_copyFrom_10 : decode cX3_copyFrom 10 = .ok (.sipush 128, 3) := by decide +kernel
theorem dX3_copyFrom_13 : decode cX3_copyFrom 13 = .ok (.invokestatic 43, 3) := by decide +kernel
theorem dX3_copyFrom_16 : decode cX3_copyFrom 16 = .ok (.aload_n 1, 1) := by decide +kernel
theorem dX3_copyFrom_17 : decode cX3_copyFrom 17 = .ok (.getfield 15, 3) := by decide +kernel
theorem dX3_copyFrom_20 : decode cX3_copyFrom 20 = .ok (.iconst 0, 1) := by decide +kernel
theorem dX3_copyFrom_21 : decode cX3_copyFrom 21 = .ok (.aload_n 0, 1) := by decide +kernel
theorem dX3_copyFrom_22 : decode cX3_copyFrom 22 = .ok (.getfield 15, 3) := by decide +kernel
theorem dX3_copyFrom_25 : decode cX3_copyFrom 25 = .ok (.iconst 0, 1) := by decide +kernel
theorem dX3_copyFrom_26 : decode cX3_copyFrom 26 = .ok (.sipush 128, 3) := by decide +kernel
theorem dX3_copyFrom_29 : decode cX3_copyFrom 29 = .ok (.invokestatic 43, 3) := by decide +kernel
theorem dX3_copyFrom_32 : decode cX3_copyFrom 32 = .ok (.aload_n 1, 1) := by decide +kernel
theorem dX3_copyFrom_33 : decode cX3_copyFrom 33 = .ok (.getfield 18, 3) := by decide +kernel
theorem dX3_copyFrom_36 : decode cX3_copyFrom 36 = .ok (.iconst 0, 1) := by decide +kernel
theorem dX3_copyFrom_37 : decode cX3_copyFrom 37 = .ok (.aload_n 0, 1) := by decide +kernel
theorem dX3_copyFrom_38 : decode cX3_copyFrom 38 = .ok (.getfield 18, 3) := by decide +kernel
theorem dX3_copyFrom_41 : decode cX3_copyFrom 41 = .ok (.iconst 0, 1) := by decide +kernel
theorem dX3_copyFrom_42 : decode cX3_copyFrom 42 = .ok (.sipush 128, 3) := by decide +kernel
theorem dX3_copyFrom_45 : decode cX3_copyFrom 45 = .ok (.invokestatic 43, 3) := by decide +kernel
theorem dX3_copyFrom_48 : decode cX3_copyFrom 48 = .ok (.aload_n 1, 1) := by decide +kernel
theorem dX3_copyFrom_49 : decode cX3_copyFrom 49 = .ok (.getfield 21, 3) := by decide +kernel
theorem dX3_copyFrom_52 : decode cX3_copyFrom 52 = .ok (.iconst 0, 1) := by decide +kernel
theorem dX3_copyFrom_53 : decode cX3_copyFrom 53 = .ok (.aload_n 0, 1) := by decide +kernel
theorem dX3_copyFrom_54 : decode cX3_copyFrom 54 = .ok (.getfield 21, 3) := by decide +kernel
theorem dX3_copyFrom_57 : decode cX3_copyFrom 57 = .ok (.iconst 0, 1) := by decide +kernel
theorem dX3_copyFrom_58 : decode cX3_copyFrom 58 = .ok (.sipush 128, 3) := by decide +kernel
theorem dX3_copyFrom_61 : decode cX3_copyFrom 61 = .ok (.invokestatic 43, 3) := by decide +kernel
theorem dX3_copyFrom_64 : decode cX3_copyFrom 64 = .ok (.return_, 1) := by decide +kernel
theorem dX4_init_0 : decode cX4_init 0 = .ok (.aload_n 0, 1) := by decide +kernel
theorem dX4_init_1 : decode cX4_init 1 = .ok (.invokespecial 3, 3) := by decide +kernel
theorem dX4_init_4 : decode cX4_init 4 = .ok (.aload_n 0, 1) := by decide +kernel
theorem dX4_init_5 : decode cX4_init 5 = .ok (.sipush 128, 3) := by decide +kernel
theorem dX4_init_8 : decode cX4_init 8 = .ok (.newarray .int, 2) := by decide +kernel
theorem dX4_init_10 : decode cX4_init 10 = .ok (.putfield 9, 3) := by decide +kernel
theorem dX4_init_13 : decode cX4_init 13 = .ok (.aload_n 0, 1) := by decide +kernel
theorem dX4_init_14 : decode cX4_init 14 = .ok (.getfield 9, 3) := by decide +kernel
theorem dX4_init_17 : decode cX4_init 17 = .ok (.iconst (-1), 1) := by decide +kernel
theorem dX4_init_18 : decode cX4_init 18 = .ok (.invokestatic 15, 3) := by decide +kernel
theorem dX4_init_21 : decode cX4_init 21 = .ok (.return_, 1) := by decide +kernel
theorem dX4_blockOf_0 : decode cX4_blockOf 0 = .ok (.iload_n 1, 1) := by decide +kernel
theorem dX4_blockOf_1 : decode cX4_blockOf 1 = .ok (.ifCond .lt 21, 3) := by decide +kernel
theorem dX4_blockOf_4 : decode cX4_blockOf 4 = .ok (.iload_n 1, 1) := by decide +kernel
theorem dX4_blockOf_5 : decode cX4_blockOf 5 = .ok (.aload_n 0, 1) := by decide +kernel
theorem dX4_blockOf_6 : decode cX4_blockOf 6 = .ok (.getfield 9, 3) := by decide +kernel
theorem dX4_blockOf_9 : decode cX4_blockOf 9 = .ok (.arraylength, 1) := by decide +kernel
theorem dX4_blockOf_10 : decode cX4_blockOf 10 = .ok (.if_icmp .ge 12, 3) := by decide +kernel
theorem dX4_blockOf_13 : decode cX4_blockOf 13 = .ok (.aload_n 0, 1) := by decide +kernel
theorem dX4_blockOf_14 : decode cX4_blockOf 14 = .ok (.getfield 9, 3) := by decide +kernel
theorem dX4_blockOf_17 : decode cX4_blockOf 17 = .ok (.iload_n 1, 1) := by decide +kernel
theorem dX4_blockOf_18 : decode cX4_blockOf 18 = .ok (.iaload, 1) := by decide +kernel
theorem dX4_blockOf_19 : decode cX4_blockOf 19 = .ok (.goto 4, 3) := by decide +kernel
theorem dX4_blockOf_22 : decode cX4_blockOf 22 = .ok (.iconst (-1), 1) := by decide +kernel
theorem dX4_blockOf_23 : decode cX4_blockOf 23 = .ok (.ireturn, 1) := by decide +kernel
theorem dX4_set_0 : decode cX4_set 0 = .ok (.iload_n 1, 1) := by decide +kernel
theorem dX4_set_1 : decode cX4_set 1 = .ok (.ifCond .lt 19, 3) := by decide +kernel
theorem dX4_set_4 : decode cX4_set 4 = .ok (.iload_n 1, 1) := by decide +kernel
theorem dX4_set_5 : decode cX4_set 5 = .ok (.aload_n 0, 1) := by decide +kernel
theorem dX4_set_6 : decode cX4_set 6 = .ok (.getfield 9, 3) := by decide +kernel
theorem dX4_set_9 : decode cX4_set 9 = .ok (.arraylength, 1) := by decide +kernel
theorem dX4_set_10 : decode cX4_set 10 = .ok (.if_icmp .ge 10, 3) := by decide +kernel
theorem dX4_set_13 : decode cX4_set 13 = .ok (.aload_n 0, 1) := by decide +kernel
theorem dX4_set_14 : decode cX4_set 14 = .ok (.getfield 9, 3) := by decide +kernel
theorem dX4_set_17 : decode cX4_set 17 = .ok (.iload_n 1, 1) := by decide +kernel
theorem dX4_set_18 : decode cX4_set 18 = .ok (.iload_n 2, 1) := by decide +kernel
theorem dX4_set_19 : decode cX4_set 19 = .ok (.iastore, 1) := by decide +kernel
theorem dX4_set_20 : decode cX4_set 20 = .ok (.return_, 1) := by decide +kernel
theorem dX4_copyFrom_0 : decode cX4_copyFrom 0 = .ok (.aload_n 1, 1) := by decide +kernel
theorem dX4_copyFrom_1 : decode cX4_copyFrom 1 = .ok (.getfield 9, 3) := by decide +kernel
theorem dX4_copyFrom_4 : decode cX4_copyFrom 4 = .ok (.iconst 0, 1) := by decide +kernel
theorem dX4_copyFrom_5 : decode cX4_copyFrom 5 = .ok (.aload_n 0, 1) := by decide +kernel
theorem dX4_copyFrom_6 : decode cX4_copyFrom 6 = .ok (.getfield 9, 3) := by decide +kernel
theorem dX4_copyFrom_9 : decode cX4_copyFrom 9 = .ok (.iconst 0, 1) := by decide +kernel
theorem dX4_copyFrom_10 : decode cX4_copyFrom 10 = .ok (.sipush 128, 3) := by decide +kernel
theorem dX4_copyFrom_13 : decode cX4_copyFrom 13 = .ok (.invokestatic 21, 3) := by decide +kernel
theorem dX4_copyFrom_16 : decode cX4_copyFrom 16 = .ok (.return_, 1) := by decide +kernel
theorem dX5_init_0 : decode cX5_init 0 = .ok (.aload_n 0, 1) := by decide +kernel
theorem dX5_init_1 : decode cX5_init 1 = .ok (.invokespecial 3, 3) := by decide +kernel
theorem dX5_init_4 : decode cX5_init 4 = .ok (.aload_n 0, 1) := by decide +kernel
theorem dX5_init_5 : decode cX5_init 5 = .ok (.bipush 6, 2) := by decide +kernel
theorem dX5_init_7 : decode cX5_init 7 = .ok (.anewarray 9, 3) := by decide +kernel
theorem dX5_init_10 : decode cX5_init 10 = .ok (.putfield 11, 3) := by decide +kernel
theorem dX5_init_13 : decode cX5_init 13 = .ok (.aload_n 0, 1) := by decide +kernel
theorem dX5_init_14 : decode cX5_init 14 = .ok (.bipush 12, 2) := by decide +kernel
theorem dX5_init_16 : decode cX5_init 16 = .ok (.anewarray 17, 3) := by decide +kernel
theorem dX5_init_19 : decode cX5_init 19 = .ok (.putfield 19, 3) := by decide +kernel
theorem dX5_init_22 : decode cX5_init 22 = .ok (.aload_n 0, 1) := by decide +kernel
theorem dX5_init_23 : decode cX5_init 23 = .ok (.new 23, 3) := by decide +kernel
theorem dX5_init_26 : decode cX5_init 26 = .ok (.dup, 1) := by decide +kernel
theorem dX5_init_27 : decode cX5_init 27 = .ok (.invokespecial 25, 3) := by decide +kernel
theorem dX5_init_30 : decode cX5_init 30 = .ok (.putfield 26, 3) := by decide +kernel
theorem dX5_init_33 : decode cX5_init 33 = .ok (.aload_n 0, 1) := by decide +kernel
theorem dX5_init_34 : decode cX5_init 34 = .ok (.iconst 4, 1) := by decide +kernel
theorem dX5_init_35 : decode cX5_init 35 = .ok (.anewarray 30, 3) := by decide +kernel
theorem dX5_init_38 : decode cX5_init 38 = .ok (.putfield 32, 3) := by decide +kernel
theorem dX5_init_41 : decode cX5_init 41 = .ok (.aload_n 0, 1) := by decide +kernel
theorem dX5_init_42 : decode cX5_init 42 = .ok (.iconst 1, 1) := by decide +kernel
theorem dX5_init_43 : decode cX5_init 43 = .ok (.putfield 36, 3) := by decide +kernel
theorem dX5_init_46 : decode cX5_init 46 = .ok (.aload_n 0, 1) := by decide +kernel
theorem dX5_init_47 : decode cX5_init 47 = .ok (.iconst 0, 1) := by decide +kernel
theorem dX5_init_48 : decode cX5_init 48 = .ok (.putfield 40, 3) := by decide +kernel
theorem dX5_init_51 : decode cX5_init 51 = .ok (.aload_n 0, 1) := by decide +kernel
theorem dX5_init_52 : decode cX5_init 52 = .ok (.iconst 0, 1) := by decide +kernel
theorem dX5_init_53 : decode cX5_init 53 = .ok (.putfield 43, 3) := by decide +kernel
theorem dX5_init_56 : decode cX5_init 56 = .ok (.iconst 0, 1) := by decide +kernel
theorem dX5_init_57 : decode cX5_init 57 = .ok (.istore_n 1, 1) := by decide +kernel
theorem dX5_init_58 : decode cX5_init 58 = .ok (.iload_n 1, 1) := by decide +kernel
theorem dX5_init_59 : decode cX5_init 59 = .ok (.bipush 6, 2) := by decide +kernel
theorem dX5_init_61 : decode cX5_init 61 = .ok (.if_icmp .ge 31, 3) := by decide +kernel
theorem dX5_init_64 : decode cX5_init 64 = .ok (.aload_n 0, 1) := by decide +kernel
theorem dX5_init_65 : decode cX5_init 65 = .ok (.getfield 11, 3) := by decide +kernel
theorem dX5_init_68 : decode cX5_init 68 = .ok (.iload_n 1, 1) := by decide +kernel
theorem dX5_init_69 : decode cX5_init 69 = .ok (.new 9, 3) := by decide +kernel
theorem dX5_init_72 : decode cX5_init 72 = .ok (.dup, 1) := by decide +kernel
theorem dX5_init_73 : decode cX5_init 73 = .ok (.iload_n 1, 1) := by decide +kernel
theorem dX5_init_74 : decode cX5_init 74 = .ok (.ifCond .ne 7, 3) := by decide +kernel
theorem dX5_init_77 : decode cX5_init 77 = .ok (.iconst 1, 1) := by decide +kernel
theorem dX5_init_78 : decode cX5_init 78 = .ok (.goto 4, 3) := by decide +kernel
theorem dX5_init_81 : decode cX5_init 81 = .ok (.iconst 0, 1) := by decide +kernel
theorem dX5_init_82 : decode cX5_init 82 = .ok (.invokespecial 46, 3) := by decide +kernel
theorem dX5_init_85 : decode cX5_init 85 = .ok (.aastore, 1) := by decide +kernel
theorem dX5_init_86 : decode cX5_init 86 = .ok (.iinc 1 1, 3) := by decide +kernel
theorem dX5_init_89 : decode cX5_init 89 = .ok (.goto (-31), 3) := by decide +kernel
theorem dX5_init_92 : decode cX5_init 92 = .ok (.iconst 0, 1) := by decide +kernel
theorem dX5_init_93 : decode cX5_init 93 = .ok (.istore_n 1, 1) := by decide +kernel
theorem dX5_init_94 : decode cX5_init 94 = .ok (.iload_n 1, 1) := by decide +kernel
theorem dX5_init_95 : decode cX5_init 95 = .ok (.bipush 12, 2) := by decide +kernel
theorem dX5_init_97 : decode cX5_init 97 = .ok (.if_icmp .ge 22, 3) := by decide +kernel
theorem dX5_init_100 : decode cX5_init 100 = .ok (.aload_n 0, 1) := by decide +kernel
theorem dX5_init_101 : decode cX5_init 101 = .ok (.getfield 19, 3) := by decide +kernel
theorem dX5_init_104 : decode cX5_init 104 = .ok (.iload_n 1, 1) := by decide +kernel
theorem dX5_init_105 : decode cX5_init 105 = .ok (.new 17, 3) := by decide +kernel
theorem dX5_init_108 : decode cX5_init 108 = .ok (.dup, 1) := by decide +kernel
theorem dX5_init_109 : decode cX5_init 109 = .ok (.invokespecial 49, 3) := by decide +kernel
theorem dX5_init_112 : decode cX5_init 112 = .ok (.aastore, 1) := by decide +kernel
theorem dX5_init_113 : decode cX5_init 113 = .ok (.iinc 1 1, 3) := by decide +kernel
theorem dX5_init_116 : decode cX5_init 116 = .ok (.goto (-22), 3) := by decide +kernel
theorem dX5_init_119 : decode cX5_init 119 = .ok (.iconst 0, 1) := by decide +kernel
theorem dX5_init_120 : decode cX5_init 120 = .ok (.istore_n 1, 1) := by decide +kernel
theorem dX5_init_121 : decode cX5_init 121 = .ok (.iload_n 1, 1) := by decide +kernel
theorem dX5_init_122 : decode cX5_init 122 = .ok (.iconst 4, 1) := by decide +kernel
theorem dX5_init_123 : decode cX5_init 123 = .ok (.if_icmp .ge 26, 3) := by decide +kernel
theorem dX5_init_126 : decode cX5_init 126 = .ok (.aload_n 0, 1) := by decide +kernel
theorem dX5_init_127 : decode cX5_init 127 = .ok (.getfield 32, 3) := by decide +kernel
theorem dX5_init_130 : decode cX5_init 130 = .ok (.iload_n 1, 1) := by decide +kernel
theorem dX5_init_131 : decode cX5_init 131 = .ok (.new 30, 3) := by decide +kernel
theorem dX5_init_134 : decode cX5_init 134 = .ok (.dup, 1) := by decide +kernel
theorem dX5_init_135 : decode cX5_init 135 = .ok (.iload_n 1, 1) := by decide +kernel
theorem dX5_init_136 : decode cX5_init 136 = .ok (.bipush 32, 2) := by decide +kernel
theorem dX5_init_138 : decode cX5_init 138 = .ok (.imul, 1) := by decide +kernel
theorem dX5_init_139 : decode cX5_init 139 = .ok (.invokespecial 50, 3) := by decide +kernel
theorem dX5_init_142 : decode cX5_init 142 = .ok (.aastore, 1) := by decide +kernel
theorem dX5_init_143 : decode cX5_init 143 = .ok (.iinc 1 1, 3) := by decide +kernel
theorem dX5_init_146 : decode cX5_init 146 = .ok (.goto (-25), 3) := by decide +kernel
theorem dX5_init_149 : decode cX5_init 149 = .ok (.return_, 1) := by decide +kernel
theorem dX5_copyFrom_0 : decode cX5_copyFrom 0 = .ok (.iconst 0, 1) := by decide +kernel
theorem dX5_copyFrom_1 : decode cX5_copyFrom 1 = .ok (.istore_n 2, 1) := by decide +kernel
theorem dX5_copyFrom_2 : decode cX5_copyFrom 2 = .ok (.iload_n 2, 1) := by decide +kernel
theorem dX5_copyFrom_3 : decode cX5_copyFrom 3 = .ok (.bipush 6, 2) := by decide +kernel
theorem dX5_copyFrom_5 : decode cX5_copyFrom 5 = .ok (.if_icmp .ge 24, 3) := by decide +kernel
theorem dX5_copyFrom_8 : decode cX5_copyFrom 8 = .ok (.aload_n 0, 1) := by decide +kernel
theorem dX5_copyFrom_9 : decode cX5_copyFrom 9 = .ok (.getfield 11, 3) := by decide +kernel
theorem dX5_copyFrom_12 : decode cX5_copyFrom 12 = .ok (.iload_n 2, 1) := by decide +kernel
theorem dX5_copyFrom_13 : decode cX5_copyFrom 13 = .ok (.aaload, 1) := by decide +kernel
theorem dX5_copyFrom_14 : decode cX5_copyFrom 14 = .ok (.aload_n 1, 1) := by decide +kernel
theorem dX5_copyFrom_15 : decode cX5_copyFrom 15 = .ok (.getfield 11, 3) := by decide +kernel
theorem dX5_copyFrom_18 : decode cX5_copyFrom 18 = .ok (.iload_n 2, 1) := by decide +kernel
theorem dX5_copyFrom_19 : decode cX5_copyFrom 19 = .ok (.aaload, 1) := by decide +kernel
theorem dX5_copyFrom_20 : decode cX5_copyFrom 20 = .ok (.invokevirtual 53, 3) := by decide +kernel
theorem dX5_copyFrom_23 : decode cX5_copyFrom 23 = .ok (.iinc 2 1, 3) := by decide +kernel
theorem dX5_copyFrom_26 : decode cX5_copyFrom 26 = .ok (.goto (-24), 3) := by decide +kernel
theorem dX5_copyFrom_29 : decode cX5_copyFrom 29 = .ok (.iconst 0, 1) := by decide +kernel
theorem dX5_copyFrom_30 : decode cX5_copyFrom 30 = .ok (.istore_n 2, 1) := by decide +kernel
theorem dX5_copyFrom_31 : decode cX5_copyFrom 31 = .ok (.iload_n 2, 1) := by decide +kernel
theorem dX5_copyFrom_32 : decode cX5_copyFrom 32 = .ok (.bipush 12, 2) := by decide +kernel
theorem dX5_copyFrom_34 : decode cX5_copyFrom 34 = .ok (.if_icmp .ge 24, 3) := by decide +kernel
theorem dX5_copyFrom_37 : decode cX5_copyFrom 37 = .ok (.aload_n 0, 1) := by decide +kernel
theorem dX5_copyFrom_38 : decode cX5_copyFrom 38 = .ok (.getfield 19, 3) := by decide +kernel
theorem dX5_copyFrom_41 : decode cX5_copyFrom 41 = .ok (.iload_n 2, 1) := by decide +kernel
theorem dX5_copyFrom_42 : decode cX5_copyFrom 42 = .ok (.aaload, 1) := by decide +kernel
theorem dX5_copyFrom_43 : decode cX5_copyFrom 43 = .ok (.aload_n 1, 1) := by decide +kernel
theorem dX5_copyFrom_44 : decode cX5_copyFrom 44 = .ok (.getfield 19, 3) := by decide +kernel
theorem dX5_copyFrom_47 : decode cX5_copyFrom 47 = .ok (.iload_n 2, 1) := by decide +kernel
theorem dX5_copyFrom_48 : decode cX5_copyFrom 48 = .ok (.aaload, 1) := by decide +kernel
theorem dX5_copyFrom_49 : decode cX5_copyFrom 49 = .ok (.invokevirtual 57, 3) := by decide +kernel
theorem dX5_copyFrom_52 : decode cX5_copyFrom 52 = .ok (.iinc 2 1, 3) := by decide +kernel
theorem dX5_copyFrom_55 : decode cX5_copyFrom 55 = .ok (.goto (-24), 3) := by decide +kernel
theorem dX5_copyFrom_58 : decode cX5_copyFrom 58 = .ok (.aload_n 0, 1) := by decide +kernel
theorem dX5_copyFrom_59 : decode cX5_copyFrom 59 = .ok (.getfield 26, 3) := by decide +kernel
theorem dX5_copyFrom_62 : decode cX5_copyFrom 62 = .ok (.aload_n 1, 1) := by decide +kernel
theorem dX5_copyFrom_63 : decode cX5_copyFrom 63 = .ok (.getfield 26, 3) := by decide +kernel
theorem dX5_copyFrom_66 : decode cX5_copyFrom 66 = .ok (.invokevirtual 60, 3) := by decide +kernel
theorem dX5_copyFrom_69 : decode cX5_copyFrom 69 = .ok (.iconst 0, 1) := by decide +kernel
theorem dX5_copyFrom_70 : decode cX5_copyFrom 70 = .ok (.istore_n 2, 1) := by decide +kernel
theorem dX5_copyFrom_71 : decode cX5_copyFrom 71 = .ok (.iload_n 2, 1) := by decide +kernel
theorem dX5_copyFrom_72 : decode cX5_copyFrom 72 = .ok (.iconst 4, 1) := by decide +kernel
theorem dX5_copyFrom_73 : decode cX5_copyFrom 73 = .ok (.if_icmp .ge 24, 3) := by decide +kernel
theorem dX5_copyFrom_76 : decode cX5_copyFrom 76 = .ok (.aload_n 0, 1) := by decide +kernel
theorem dX5_copyFrom_77 : decode cX5_copyFrom 77 = .ok (.getfield 32, 3) := by decide +kernel
theorem dX5_copyFrom_80 : decode cX5_copyFrom 80 = .ok (.iload_n 2, 1) := by decide +kernel
theorem dX5_copyFrom_81 : decode cX5_copyFrom 81 = .ok (.aaload, 1) := by decide +kernel
theorem dX5_copyFrom_82 : decode cX5_copyFrom 82 = .ok (.aload_n 1, 1) := by decide +kernel
theorem dX5_copyFrom_83 : decode cX5_copyFrom 83 = .ok (.getfield 32, 3) := by decide +kernel
theorem dX5_copyFrom_86 : decode cX5_copyFrom 86 = .ok (.iload_n 2, 1) := by decide +kernel
theorem dX5_copyFrom_87 : decode cX5_copyFrom 87 = .ok (.aaload, 1) := by decide +kernel
theorem dX5_copyFrom_88 : decode cX5_copyFrom 88 = .ok (.invokevirtual 63, 3) := by decide +kernel
theorem dX5_copyFrom_91 : decode cX5_copyFrom 91 = .ok (.iinc 2 1, 3) := by decide +kernel
theorem dX5_copyFrom_94 : decode cX5_copyFrom 94 = .ok (.goto (-23), 3) := by decide +kernel
theorem dX5_copyFrom_97 : decode cX5_copyFrom 97 = .ok (.aload_n 0, 1) := by decide +kernel
theorem dX5_copyFrom_98 : decode cX5_copyFrom 98 = .ok (.aload_n 1, 1) := by decide +kernel
theorem dX5_copyFrom_99 : decode cX5_copyFrom 99 = .ok (.getfield 36, 3) := by decide +kernel
theorem dX5_copyFrom_102 : decode cX5_copyFrom 102 = .ok (.putfield 36, 3) := by decide +kernel
theorem dX5_copyFrom_105 : decode cX5_copyFrom 105 = .ok (.aload_n 0, 1) := by decide +kernel
theorem dX5_copyFrom_106 : decode cX5_copyFrom 106 = .ok (.aload_n 1, 1) := by decide +kernel
theorem dX5_copyFrom_107 : decode cX5_copyFrom 107 = .ok (.getfield 40, 3) := by decide +kernel
theorem dX5_copyFrom_110 : decode cX5_copyFrom 110 = .ok (.putfield 40, 3) := by decide +kernel
theorem dX5_copyFrom_113 : decode cX5_copyFrom 113 = .ok (.aload_n 0, 1) := by decide +kernel
theorem dX5_copyFrom_114 : decode cX5_copyFrom 114 = .ok (.aload_n 1, 1) := by decide +kernel
theorem dX5_copyFrom_115 : decode cX5_copyFrom 115 = .ok (.getfield 43, 3) := by decide +kernel
theorem dX5_copyFrom_118 : decode cX5_copyFrom 118 = .ok (.putfield 43, 3) := by decide +kernel
theorem dX5_copyFrom_121 : decode cX5_copyFrom 121 = .ok (.return_, 1) := by decide +kernel
theorem dX5_findDataset_0 : decode cX5_findDataset 0 = .ok (.iload_n 1, 1) := by decide +kernel
theorem dX5_findDataset_1 : decode cX5_findDataset 1 = .ok (.ifCond .lt 24, 3) := by decide +kernel
theorem dX5_findDataset_4 : decode cX5_findDataset 4 = .ok (.iload_n 1, 1) := by decide +kernel
theorem dX5_findDataset_5 : decode cX5_findDataset 5 = .ok (.aload_n 0, 1) := by decide +kernel
theorem dX5_findDataset_6 : decode cX5_findDataset 6 = .ok (.getfield 11, 3) := by decide +kernel
theorem dX5_findDataset_9 : decode cX5_findDataset 9 = .ok (.arraylength, 1) := by decide +kernel
theorem dX5_findDataset_10 : decode cX5_findDataset 10 = .ok (.if_icmp .ge 15, 3) := by decide +kernel
theorem dX5_findDataset_13 : decode cX5_findDataset 13 = .ok (.aload_n 0, 1) := by decide +kernel
theorem dX5_findDataset_14 : decode cX5_findDataset 14 = .ok (.getfield 11, 3) := by decide +kernel
theorem dX5_findDataset_17 : decode cX5_findDataset 17 = .ok (.iload_n 1, 1) := by decide +kernel
theorem dX5_findDataset_18 : decode cX5_findDataset 18 = .ok (.aaload, 1) := by decide +kernel
theorem dX5_findDataset_19 : decode cX5_findDataset 19 = .ok (.getfield 66, 3) := by decide +kernel
theorem dX5_findDataset_22 : decode cX5_findDataset 22 = .ok (.ifCond .ne 5, 3) := by decide +kernel
theorem dX5_findDataset_25 : decode cX5_findDataset 25 = .ok (.aconst_null, 1) := by decide +kernel
theorem dX5_findDataset_26 : decode cX5_findDataset 26 = .ok (.areturn, 1) := by decide +kernel
theorem dX5_findDataset_27 : decode cX5_findDataset 27 = .ok (.aload_n 0, 1) := by decide +kernel
theorem dX5_findDataset_28 : decode cX5_findDataset 28 = .ok (.getfield 11, 3) := by decide +kernel
theorem dX5_findDataset_31 : decode cX5_findDataset 31 = .ok (.iload_n 1, 1) := by decide +kernel
theorem dX5_findDataset_32 : decode cX5_findDataset 32 = .ok (.aaload, 1) := by decide +kernel
theorem dX5_findDataset_33 : decode cX5_findDataset 33 = .ok (.areturn, 1) := by decide +kernel
theorem dX5_findSnapshot_0 : decode cX5_findSnapshot 0 = .ok (.iconst 0, 1) := by decide +kernel
theorem dX5_findSnapshot_1 : decode cX5_findSnapshot 1 = .ok (.istore_n 2, 1) := by decide +kernel
theorem dX5_findSnapshot_2 : decode cX5_findSnapshot 2 = .ok (.iload_n 2, 1) := by decide +kernel
theorem dX5_findSnapshot_3 : decode cX5_findSnapshot 3 = .ok (.bipush 12, 2) := by decide +kernel
theorem dX5_findSnapshot_5 : decode cX5_findSnapshot 5 = .ok (.if_icmp .ge 41, 3) := by decide +kernel
theorem dX5_findSnapshot_8 : decode cX5_findSnapshot 8 = .ok (.aload_n 0, 1) := by decide +kernel
theorem dX5_findSnapshot_9 : decode cX5_findSnapshot 9 = .ok (.getfield 19, 3) := by decide +kernel
theorem dX5_findSnapshot_12 : decode cX5_findSnapshot 12 = .ok (.iload_n 2, 1) := by decide +kernel
theorem dX5_findSnapshot_13 : decode cX5_findSnapshot 13 = .ok (.aaload, 1) := by decide +kernel
theorem dX5_findSnapshot_14 : decode cX5_findSnapshot 14 = .ok (.getfield 70, 3) := by decide +kernel
theorem dX5_findSnapshot_17 : decode cX5_findSnapshot 17 = .ok (.ifCond .eq 23, 3) := by decide +kernel
theorem dX5_findSnapshot_20 : decode cX5_findSnapshot 20 = .ok (.aload_n 0, 1) := by decide +kernel
theorem dX5_findSnapshot_21 : decode cX5_findSnapshot 21 = .ok (.getfield 19, 3) := by decide +kernel
theorem dX5_findSnapshot_24 : decode cX5_findSnapshot 24 = .ok (.iload_n 2, 1) := by decide +kernel
theorem dX5_findSnapshot_25 : decode cX5_findSnapshot 25 = .ok (.aaload, 1) := by decide +kernel
theorem dX5_findSnapshot_26 : decode cX5_findSnapshot 26 = .ok (.getfield 71, 3) := by decide +kernel
theorem dX5_findSnapshot_29 : decode cX5_findSnapshot 29 = .ok (.iload_n 1, 1) := by decide +kernel
theorem dX5_findSnapshot_30 : decode cX5_findSnapshot 30 = .ok (.if_icmp .ne 10, 3) := by decide +kernel
theorem dX5_findSnapshot_33 : decode cX5_findSnapshot 33 = .ok (.aload_n 0, 1) := by decide +kernel
theorem dX5_findSnapshot_34 : decode cX5_findSnapshot 34 = .ok (.getfield 19, 3) := by decide +kernel
theorem dX5_findSnapshot_37 : decode cX5_findSnapshot 37 = .ok (.iload_n 2, 1) := by decide +kernel
theorem dX5_findSnapshot_38 : decode cX5_findSnapshot 38 = .ok (.aaload, 1) := by decide +kernel
theorem dX5_findSnapshot_39 : decode cX5_findSnapshot 39 = .ok (.areturn, 1) := by decide +kernel
theorem dX5_findSnapshot_40 : decode cX5_findSnapshot 40 = .ok (.iinc 2 1, 3) := by decide +kernel
theorem dX5_findSnapshot_43 : decode cX5_findSnapshot 43 = .ok (.goto (-41), 3) := by decide +kernel
theorem dX5_findSnapshot_46 : decode cX5_findSnapshot 46 = .ok (.aconst_null, 1) := by decide +kernel
theorem dX5_findSnapshot_47 : decode cX5_findSnapshot 47 = .ok (.areturn, 1) := by decide +kernel
theorem dX5_snapshotOfRank_0 : decode cX5_snapshotOfRank 0 = .ok (.iconst 0, 1) := by decide +kernel
theorem dX5_snapshotOfRank_1 : decode cX5_snapshotOfRank 1 = .ok (.istore_n 3, 1) := by decide +kernel
theorem dX5_snapshotOfRank_2 : decode cX5_snapshotOfRank 2 = .ok (.iload_n 3, 1) := by decide +kernel
theorem dX5_snapshotOfRank_3 : decode cX5_snapshotOfRank 3 = .ok (.bipush 12, 2) := by decide +kernel
theorem dX5_snapshotOfRank_5 : decode cX5_snapshotOfRank 5 = .ok (.if_icmp .ge 42, 3) := by decide +kernel
theorem dX5_snapshotOfRank_8 : decode cX5_snapshotOfRank 8 = .ok (.aload_n 0, 1) := by decide +kernel
theorem dX5_snapshotOfRank_9 : decode cX5_snapshotOfRank 9 = .ok (.getfield 19, 3) := by decide +kernel
theorem dX5_snapshotOfRank_12 : decode cX5_snapshotOfRank 12 = .ok (.iload_n 3, 1) := by decide +kernel
theorem dX5_snapshotOfRank_13 : decode cX5_snapshotOfRank 13 = .ok (.aaload, 1) := by decide +kernel
theorem dX5_snapshotOfRank_14 : decode cX5_snapshotOfRank 14 = .ok (.iload_n 1, 1) := by decide +kernel
theorem dX5_snapshotOfRank_15 : decode cX5_snapshotOfRank 15 = .ok (.invokevirtual 72, 3) := by decide +kernel
theorem dX5_snapshotOfRank_18 : decode cX5_snapshotOfRank 18 = .ok (.ifCond .eq 23, 3) := by decide +kernel
theorem dX5_snapshotOfRank_21 : decode cX5_snapshotOfRank 21 = .ok (.aload_n 0, 1) := by decide +kernel
theorem dX5_snapshotOfRank_22 : decode cX5_snapshotOfRank 22 = .ok (.getfield 19, 3) := by decide +kernel
theorem dX5_snapshotOfRank_25 : decode cX5_snapshotOfRank 25 = .ok (.iload_n 3, 1) := by decide +kernel
theorem dX5_snapshotOfRank_26 : decode cX5_snapshotOfRank 26 = .ok (.aaload, 1) := by decide +kernel
theorem dX5_snapshotOfRank_27 : decode cX5_snapshotOfRank 27 = .ok (.getfield 76, 3) := by decide +kernel
theorem dX5_snapshotOfRank_30 : decode cX5_snapshotOfRank 30 = .ok (.iload_n 2, 1) := by decide +kernel
theorem dX5_snapshotOfRank_31 : decode cX5_snapshotOfRank 31 = .ok (.if_icmp .ne 10, 3) := by decide +kernel
theorem dX5_snapshotOfRank_34 : decode cX5_snapshotOfRank 34 = .ok (.aload_n 0, 1) := by decide +kernel
theorem dX5_snapshotOfRank_35 : decode cX5_snapshotOfRank 35 = .ok (.getfield 19, 3) := by decide +kernel
theorem dX5_snapshotOfRank_38 : decode cX5_snapshotOfRank 38 = .ok (.iload_n 3, 1) := by decide +kernel
theorem dX5_snapshotOfRank_39 : decode cX5_snapshotOfRank 39 = .ok (.aaload, 1) := by decide +kernel
theorem dX5_snapshotOfRank_40 : decode cX5_snapshotOfRank 40 = .ok (.areturn, 1) := by decide +kernel
theorem dX5_snapshotOfRank_41 : decode cX5_snapshotOfRank 41 = .ok (.iinc 3 1, 3) := by decide +kernel
theorem dX5_snapshotOfRank_44 : decode cX5_snapshotOfRank 44 = .ok (.goto (-42), 3) := by decide +kernel
theorem dX5_snapshotOfRank_47 : decode cX5_snapshotOfRank 47 = .ok (.aconst_null, 1) := by decide +kernel
theorem dX5_snapshotOfRank_48 : decode cX5_snapshotOfRank 48 = .ok (.areturn, 1) := by decide +kernel
theorem dX5_unusedSnapshot_0 : decode cX5_unusedSnapshot 0 = .ok (.iconst 0, 1) := by decide +kernel
theorem dX5_unusedSnapshot_1 : decode cX5_unusedSnapshot 1 = .ok (.istore_n 1, 1) := by decide +kernel
theorem dX5_unusedSnapshot_2 : decode cX5_unusedSnapshot 2 = .ok (.iload_n 1, 1) := by decide +kernel
theorem dX5_unusedSnapshot_3 : decode cX5_unusedSnapshot 3 = .ok (.bipush 12, 2) := by decide +kernel
theorem dX5_unusedSnapshot_5 : decode cX5_unusedSnapshot 5 = .ok (.if_icmp .ge 28, 3) := by decide +kernel
theorem dX5_unusedSnapshot_8 : decode cX5_unusedSnapshot 8 = .ok (.aload_n 0, 1) := by decide +kernel
theorem dX5_unusedSnapshot_9 : decode cX5_unusedSnapshot 9 = .ok (.getfield 19, 3) := by decide +kernel
theorem dX5_unusedSnapshot_12 : decode cX5_unusedSnapshot 12 = .ok (.iload_n 1, 1) := by decide +kernel
theorem dX5_unusedSnapshot_13 : decode cX5_unusedSnapshot 13 = .ok (.aaload, 1) := by decide +kernel
theorem dX5_unusedSnapshot_14 : decode cX5_unusedSnapshot 14 = .ok (.getfield 70, 3) := by decide +kernel
theorem dX5_unusedSnapshot_17 : decode cX5_unusedSnapshot 17 = .ok (.ifCond .ne 10, 3) := by decide +kernel
theorem dX5_unusedSnapshot_20 : decode cX5_unusedSnapshot 20 = .ok (.aload_n 0, 1) := by decide +kernel
theorem dX5_unusedSnapshot_21 : decode cX5_unusedSnapshot 21 = .ok (.getfield 19, 3) := by decide +kernel
theorem dX5_unusedSnapshot_24 : decode cX5_unusedSnapshot 24 = .ok (.iload_n 1, 1) := by decide +kernel
theorem dX5_unusedSnapshot_25 : decode cX5_unusedSnapshot 25 = .ok (.aaload, 1) := by decide +kernel
theorem dX5_unusedSnapshot_26 : decode cX5_unusedSnapshot 26 = .ok (.areturn, 1) := by decide +kernel
theorem dX5_unusedSnapshot_27 : decode cX5_unusedSnapshot 27 = .ok (.iinc 1 1, 3) := by decide +kernel
theorem dX5_unusedSnapshot_30 : decode cX5_unusedSnapshot 30 = .ok (.goto (-28), 3) := by decide +kernel
theorem dX5_unusedSnapshot_33 : decode cX5_unusedSnapshot 33 = .ok (.aconst_null, 1) := by decide +kernel
theorem dX5_unusedSnapshot_34 : decode cX5_unusedSnapshot 34 = .ok (.areturn, 1) := by decide +kernel
theorem dX5_unusedDataset_0 : decode cX5_unusedDataset 0 = .ok (.iconst 0, 1) := by decide +kernel
theorem dX5_unusedDataset_1 : decode cX5_unusedDataset 1 = .ok (.istore_n 1, 1) := by decide +kernel
theorem dX5_unusedDataset_2 : decode cX5_unusedDataset 2 = .ok (.iload_n 1, 1) := by decide +kernel
theorem dX5_unusedDataset_3 : decode cX5_unusedDataset 3 = .ok (.bipush 6, 2) := by decide +kernel
theorem dX5_unusedDataset_5 : decode cX5_unusedDataset 5 = .ok (.if_icmp .ge 23, 3) := by decide +kernel
theorem dX5_unusedDataset_8 : decode cX5_unusedDataset 8 = .ok (.aload_n 0, 1) := by decide +kernel
theorem dX5_unusedDataset_9 : decode cX5_unusedDataset 9 = .ok (.getfield 11, 3) := by decide +kernel
theorem dX5_unusedDataset_12 : decode cX5_unusedDataset 12 = .ok (.iload_n 1, 1) := by decide +kernel
theorem dX5_unusedDataset_13 : decode cX5_unusedDataset 13 = .ok (.aaload, 1) := by decide +kernel
theorem dX5_unusedDataset_14 : decode cX5_unusedDataset 14 = .ok (.getfield 66, 3) := by decide +kernel
theorem dX5_unusedDataset_17 : decode cX5_unusedDataset 17 = .ok (.ifCond .ne 5, 3) := by decide +kernel
theorem dX5_unusedDataset_20 : decode cX5_unusedDataset 20 = .ok (.iload_n 1, 1) := by decide +kernel
theorem dX5_unusedDataset_21 : decode cX5_unusedDataset 21 = .ok (.ireturn, 1) := by decide +kernel
theorem dX5_unusedDataset_22 : decode cX5_unusedDataset 22 = .ok (.iinc 1 1, 3) := by decide +kernel
theorem dX5_unusedDataset_25 : decode cX5_unusedDataset 25 = .ok (.goto (-23), 3) := by decide +kernel
theorem dX5_unusedDataset_28 : decode cX5_unusedDataset 28 = .ok (.iconst (-1), 1) := by decide +kernel
theorem dX5_unusedDataset_29 : decode cX5_unusedDataset 29 = .ok (.ireturn, 1) := by decide +kernel
theorem dX5_countDatasets_0 : decode cX5_countDatasets 0 = .ok (.iconst 0, 1) := by decide +kernel
theorem dX5_countDatasets_1 : decode cX5_countDatasets 1 = .ok (.istore_n 1, 1) := by decide +kernel
theorem dX5_countDatasets_2 : decode cX5_countDatasets 2 = .ok (.iconst 0, 1) := by decide +kernel
theorem dX5_countDatasets_3 : decode cX5_countDatasets 3 = .ok (.istore_n 2, 1) := by decide +kernel
theorem dX5_countDatasets_4 : decode cX5_countDatasets 4 = .ok (.iload_n 2, 1) := by decide +kernel
theorem dX5_countDatasets_5 : decode cX5_countDatasets 5 = .ok (.bipush 6, 2) := by decide +kernel
theorem dX5_countDatasets_7 : decode cX5_countDatasets 7 = .ok (.if_icmp .ge 24, 3) := by decide +kernel
theorem dX5_countDatasets_10 : decode cX5_countDatasets 10 = .ok (.aload_n 0, 1) := by decide +kernel
theorem dX5_countDatasets_11 : decode cX5_countDatasets 11 = .ok (.getfield 11, 3) := by decide +kernel
theorem dX5_countDatasets_14 : decode cX5_countDatasets 14 = .ok (.iload_n 2, 1) := by decide +kernel
theorem dX5_countDatasets_15 : decode cX5_countDatasets 15 = .ok (.aaload, 1) := by decide +kernel
theorem dX5_countDatasets_16 : decode cX5_countDatasets 16 = .ok (.getfield 66, 3) := by decide +kernel
theorem dX5_countDatasets_19 : decode cX5_countDatasets 19 = .ok (.ifCond .eq 6, 3) := by decide +kernel
theorem dX5_countDatasets_22 : decode cX5_countDatasets 22 = .ok (.iinc 1 1, 3) := by decide +kernel
theorem dX5_countDatasets_25 : decode cX5_countDatasets 25 = .ok (.iinc 2 1, 3) := by decide +kernel
theorem dX5_countDatasets_28 : decode cX5_countDatasets 28 = .ok (.goto (-24), 3) := by decide +kernel
theorem dX5_countDatasets_31 : decode cX5_countDatasets 31 = .ok (.iload_n 1, 1) := by decide +kernel
theorem dX5_countDatasets_32 : decode cX5_countDatasets 32 = .ok (.ireturn, 1) := by decide +kernel
theorem dX5_snapshotsOf_0 : decode cX5_snapshotsOf 0 = .ok (.iconst 0, 1) := by decide +kernel
theorem dX5_snapshotsOf_1 : decode cX5_snapshotsOf 1 = .ok (.istore_n 2, 1) := by decide +kernel
theorem dX5_snapshotsOf_2 : decode cX5_snapshotsOf 2 = .ok (.iconst 0, 1) := by decide +kernel
theorem dX5_snapshotsOf_3 : decode cX5_snapshotsOf 3 = .ok (.istore_n 3, 1) := by decide +kernel
theorem dX5_snapshotsOf_4 : decode cX5_snapshotsOf 4 = .ok (.iload_n 3, 1) := by decide +kernel
theorem dX5_snapshotsOf_5 : decode cX5_snapshotsOf 5 = .ok (.bipush 12, 2) := by decide +kernel
theorem dX5_snapshotsOf_7 : decode cX5_snapshotsOf 7 = .ok (.if_icmp .ge 25, 3) := by decide +kernel
theorem dX5_snapshotsOf_10 : decode cX5_snapshotsOf 10 = .ok (.aload_n 0, 1) := by decide +kernel
theorem dX5_snapshotsOf_11 : decode cX5_snapshotsOf 11 = .ok (.getfield 19, 3) := by decide +kernel
theorem dX5_snapshotsOf_14 : decode cX5_snapshotsOf 14 = .ok (.iload_n 3, 1) := by decide +kernel
theorem dX5_snapshotsOf_15 : decode cX5_snapshotsOf 15 = .ok (.aaload, 1) := by decide +kernel
theorem dX5_snapshotsOf_16 : decode cX5_snapshotsOf 16 = .ok (.iload_n 1, 1) := by decide +kernel
theorem dX5_snapshotsOf_17 : decode cX5_snapshotsOf 17 = .ok (.invokevirtual 72, 3) := by decide +kernel
theorem dX5_snapshotsOf_20 : decode cX5_snapshotsOf 20 = .ok (.ifCond .eq 6, 3) := by decide +kernel
theorem dX5_snapshotsOf_23 : decode cX5_snapshotsOf 23 = .ok (.iinc 2 1, 3) := by decide +kernel
theorem dX5_snapshotsOf_26 : decode cX5_snapshotsOf 26 = .ok (.iinc 3 1, 3) := by decide +kernel
theorem dX5_snapshotsOf_29 : decode cX5_snapshotsOf 29 = .ok (.goto (-25), 3) := by decide +kernel
theorem dX5_snapshotsOf_32 : decode cX5_snapshotsOf 32 = .ok (.iload_n 2, 1) := by decide +kernel
theorem dX5_snapshotsOf_33 : decode cX5_snapshotsOf 33 = .ok (.ireturn, 1) := by decide +kernel
theorem dX5_isOrigin_0 : decode cX5_isOrigin 0 = .ok (.iconst 0, 1) := by decide +kernel
theorem dX5_isOrigin_1 : decode cX5_isOrigin 1 = .ok (.istore_n 2, 1) := by decide +kernel
theorem dX5_isOrigin_2 : decode cX5_isOrigin 2 = .ok (.iload_n 2, 1) := by decide +kernel
theorem dX5_isOrigin_3 : decode cX5_isOrigin 3 = .ok (.bipush 6, 2) := by decide +kernel
theorem dX5_isOrigin_5 : decode cX5_isOrigin 5 = .ok (.if_icmp .ge 36, 3) := by decide +kernel
theorem dX5_isOrigin_8 : decode cX5_isOrigin 8 = .ok (.aload_n 0, 1) := by decide +kernel
theorem dX5_isOrigin_9 : decode cX5_isOrigin 9 = .ok (.getfield 11, 3) := by decide +kernel
theorem dX5_isOrigin_12 : decode cX5_isOrigin 12 = .ok (.iload_n 2, 1) := by decide +kernel
theorem dX5_isOrigin_13 : decode cX5_isOrigin 13 = .ok (.aaload, 1) := by decide +kernel
theorem dX5_isOrigin_14 : decode cX5_isOrigin 14 = .ok (.getfield 66, 3) := by decide +kernel
theorem dX5_isOrigin_17 : decode cX5_isOrigin 17 = .ok (.ifCond .eq 18, 3) := by decide +kernel
theorem dX5_isOrigin_20 : decode cX5_isOrigin 20 = .ok (.aload_n 0, 1) := by decide +kernel
theorem dX5_isOrigin_21 : decode cX5_isOrigin 21 = .ok (.getfield 11, 3) := by decide +kernel
theorem dX5_isOrigin_24 : decode cX5_isOrigin 24 = .ok (.iload_n 2, 1) := by decide +kernel
theorem dX5_isOrigin_25 : decode cX5_isOrigin 25 = .ok (.aaload, 1) := by decide +kernel
theorem dX5_isOrigin_26 : decode cX5_isOrigin 26 = .ok (.getfield 79, 3) := by decide +kernel
theorem dX5_isOrigin_29 : decode cX5_isOrigin 29 = .ok (.iload_n 1, 1) := by decide +kernel
theorem dX5_isOrigin_30 : decode cX5_isOrigin 30 = .ok (.if_icmp .ne 5, 3) := by decide +kernel
theorem dX5_isOrigin_33 : decode cX5_isOrigin 33 = .ok (.iconst 1, 1) := by decide +kernel
theorem dX5_isOrigin_34 : decode cX5_isOrigin 34 = .ok (.ireturn, 1) := by decide +kernel
theorem dX5_isOrigin_35 : decode cX5_isOrigin 35 = .ok (.iinc 2 1, 3) := by decide +kernel
theorem dX5_isOrigin_38 : decode cX5_isOrigin 38 = .ok (.goto (-36), 3) := by decide +kernel
theorem dX5_isOrigin_41 : decode cX5_isOrigin 41 = .ok (.iconst 0, 1) := by decide +kernel
theorem dX5_isOrigin_42 : decode cX5_isOrigin 42 = .ok (.ireturn, 1) := by decide +kernel
theorem dX5_hasOriginBehind_0 : decode cX5_hasOriginBehind 0 = .ok (.iconst 0, 1) := by decide +kernel
theorem dX5_hasOriginBehind_1 : decode cX5_hasOriginBehind 1 = .ok (.istore_n 2, 1) := by decide +kernel
theorem dX5_hasOriginBehind_2 : decode cX5_hasOriginBehind 2 = .ok (.iload_n 2, 1) := by decide +kernel
theorem dX5_hasOriginBehind_3 : decode cX5_hasOriginBehind 3 = .ok (.bipush 12, 2) := by decide +kernel
theorem dX5_hasOriginBehind_5 : decode cX5_hasOriginBehind 5 = .ok (.if_icmp .ge 41, 3) := by decide +kernel
theorem dX5_hasOriginBehind_8 : decode cX5_hasOriginBehind 8 = .ok (.aload_n 0, 1) := by decide +kernel
theorem dX5_hasOriginBehind_9 : decode cX5_hasOriginBehind 9 = .ok (.aload_n 0, 1) := by decide +kernel
theorem dX5_hasOriginBehind_10 : decode cX5_hasOriginBehind 10 = .ok (.getfield 19, 3) := by decide +kernel
theorem dX5_hasOriginBehind_13 : decode cX5_hasOriginBehind 13 = .ok (.iload_n 2, 1) := by decide +kernel
theorem dX5_hasOriginBehind_14 : decode cX5_hasOriginBehind 14 = .ok (.aaload, 1) := by decide +kernel
theorem dX5_hasOriginBehind_15 : decode cX5_hasOriginBehind 15 = .ok (.aload_n 1, 1) := by decide +kernel
theorem dX5_hasOriginBehind_16 : decode cX5_hasOriginBehind 16 = .ok (.invokevirtual 82, 3) := by decide +kernel
theorem dX5_hasOriginBehind_19 : decode cX5_hasOriginBehind 19 = .ok (.ifCond .eq 21, 3) := by decide +kernel
theorem dX5_hasOriginBehind_22 : decode cX5_hasOriginBehind 22 = .ok (.aload_n 0, 1) := by decide +kernel
theorem dX5_hasOriginBehind_23 : decode cX5_hasOriginBehind 23 = .ok (.aload_n 0, 1) := by decide +kernel
theorem dX5_hasOriginBehind_24 : decode cX5_hasOriginBehind 24 = .ok (.getfield 19, 3) := by decide +kernel
theorem dX5_hasOriginBehind_27 : decode cX5_hasOriginBehind 27 = .ok (.iload_n 2, 1) := by decide +kernel
theorem dX5_hasOriginBehind_28 : decode cX5_hasOriginBehind 28 = .ok (.aaload, 1) := by decide +kernel
theorem dX5_hasOriginBehind_29 : decode cX5_hasOriginBehind 29 = .ok (.getfield 71, 3) := by decide +kernel
theorem dX5_hasOriginBehind_32 : decode cX5_hasOriginBehind 32 = .ok (.invokevirtual 86, 3) := by decide +kernel
theorem dX5_hasOriginBehind_35 : decode cX5_hasOriginBehind 35 = .ok (.ifCond .eq 5, 3) := by decide +kernel
theorem dX5_hasOriginBehind_38 : decode cX5_hasOriginBehind 38 = .ok (.iconst 1, 1) := by decide +kernel
theorem dX5_hasOriginBehind_39 : decode cX5_hasOriginBehind 39 = .ok (.ireturn, 1) := by decide +kernel
theorem dX5_hasOriginBehind_40 : decode cX5_hasOriginBehind 40 = .ok (.iinc 2 1, 3) := by decide +kernel
theorem dX5_hasOriginBehind_43 : decode cX5_hasOriginBehind 43 = .ok (.goto (-41), 3) := by decide +kernel
theorem dX5_hasOriginBehind_46 : decode cX5_hasOriginBehind 46 = .ok (.iconst 0, 1) := by decide +kernel
theorem dX5_hasOriginBehind_47 : decode cX5_hasOriginBehind 47 = .ok (.ireturn, 1) := by decide +kernel
theorem dX5_isBehind_0 : decode cX5_isBehind 0 = .ok (.aload_n 1, 1) := by decide +kernel
theorem dX5_isBehind_1 : decode cX5_isBehind 1 = .ok (.aload_n 2, 1) := by decide +kernel
theorem dX5_isBehind_2 : decode cX5_isBehind 2 = .ok (.getfield 89, 3) := by decide +kernel
theorem dX5_isBehind_5 : decode cX5_isBehind 5 = .ok (.invokevirtual 72, 3) := by decide +kernel
theorem dX5_isBehind_8 : decode cX5_isBehind 8 = .ok (.ifCond .eq 18, 3) := by decide +kernel
theorem dX5_isBehind_11 : decode cX5_isBehind 11 = .ok (.aload_n 1, 1) := by decide +kernel
theorem dX5_isBehind_12 : decode cX5_isBehind 12 = .ok (.getfield 76, 3) := by decide +kernel
theorem dX5_isBehind_15 : decode cX5_isBehind 15 = .ok (.aload_n 2, 1) := by decide +kernel
theorem dX5_isBehind_16 : decode cX5_isBehind 16 = .ok (.getfield 76, 3) := by decide +kernel
theorem dX5_isBehind_19 : decode cX5_isBehind 19 = .ok (.if_icmp .le 7, 3) := by decide +kernel
theorem dX5_isBehind_22 : decode cX5_isBehind 22 = .ok (.iconst 1, 1) := by decide +kernel
theorem dX5_isBehind_23 : decode cX5_isBehind 23 = .ok (.goto 4, 3) := by decide +kernel
theorem dX5_isBehind_26 : decode cX5_isBehind 26 = .ok (.iconst 0, 1) := by decide +kernel
theorem dX5_isBehind_27 : decode cX5_isBehind 27 = .ok (.ireturn, 1) := by decide +kernel
theorem dX5_put_0 : decode cX5_put 0 = .ok (.aload_n 0, 1) := by decide +kernel
theorem dX5_put_1 : decode cX5_put 1 = .ok (.getfield 26, 3) := by decide +kernel
theorem dX5_put_4 : decode cX5_put 4 = .ok (.aload_n 1, 1) := by decide +kernel
theorem dX5_put_5 : decode cX5_put 5 = .ok (.iload_n 2, 1) := by decide +kernel
theorem dX5_put_6 : decode cX5_put 6 = .ok (.invokevirtual 92, 3) := by decide +kernel
theorem dX5_put_9 : decode cX5_put 9 = .ok (.invokevirtual 98, 3) := by decide +kernel
theorem dX5_put_12 : decode cX5_put 12 = .ok (.aload_n 0, 1) := by decide +kernel
theorem dX5_put_13 : decode cX5_put 13 = .ok (.getfield 26, 3) := by decide +kernel
theorem dX5_put_16 : decode cX5_put 16 = .ok (.iload_n 3, 1) := by decide +kernel
theorem dX5_put_17 : decode cX5_put 17 = .ok (.invokevirtual 101, 3) := by decide +kernel
theorem dX5_put_20 : decode cX5_put 20 = .ok (.aload_n 1, 1) := by decide +kernel
theorem dX5_put_21 : decode cX5_put 21 = .ok (.iload_n 2, 1) := by decide +kernel
theorem dX5_put_22 : decode cX5_put 22 = .ok (.iload_n 3, 1) := by decide +kernel
theorem dX5_put_23 : decode cX5_put 23 = .ok (.invokevirtual 104, 3) := by decide +kernel
theorem dX5_put_26 : decode cX5_put 26 = .ok (.return_, 1) := by decide +kernel
theorem dX5_fill_0 : decode cX5_fill 0 = .ok (.iconst 0, 1) := by decide +kernel
theorem dX5_fill_1 : decode cX5_fill 1 = .ok (.istore_n 3, 1) := by decide +kernel
theorem dX5_fill_2 : decode cX5_fill 2 = .ok (.iload_n 3, 1) := by decide +kernel
theorem dX5_fill_3 : decode cX5_fill 3 = .ok (.sipush 128, 3) := by decide +kernel
theorem dX5_fill_6 : decode cX5_fill 6 = .ok (.if_icmp .ge 20, 3) := by decide +kernel
theorem dX5_fill_9 : decode cX5_fill 9 = .ok (.aload_n 0, 1) := by decide +kernel
theorem dX5_fill_10 : decode cX5_fill 10 = .ok (.aload_n 1, 1) := by decide +kernel
theorem dX5_fill_11 : decode cX5_fill 11 = .ok (.iload_n 3, 1) := by decide +kernel
theorem dX5_fill_12 : decode cX5_fill 12 = .ok (.aload_n 2, 1) := by decide +kernel
theorem dX5_fill_13 : decode cX5_fill 13 = .ok (.iload_n 3, 1) := by decide +kernel
theorem dX5_fill_14 : decode cX5_fill 14 = .ok (.invokevirtual 92, 3) := by decide +kernel
theorem dX5_fill_17 : decode cX5_fill 17 = .ok (.invokevirtual 108, 3) := by decide +kernel
theorem dX5_fill_20 : decode cX5_fill 20 = .ok (.iinc 3 1, 3) := by decide +kernel
theorem dX5_fill_23 : decode cX5_fill 23 = .ok (.goto (-21), 3) := by decide +kernel
theorem dX5_fill_26 : decode cX5_fill 26 = .ok (.return_, 1) := by decide +kernel
theorem dX5_clear_0 : decode cX5_clear 0 = .ok (.iconst 0, 1) := by decide +kernel
theorem dX5_clear_1 : decode cX5_clear 1 = .ok (.istore_n 2, 1) := by decide +kernel
theorem dX5_clear_2 : decode cX5_clear 2 = .ok (.iload_n 2, 1) := by decide +kernel
theorem dX5_clear_3 : decode cX5_clear 3 = .ok (.sipush 128, 3) := by decide +kernel
theorem dX5_clear_6 : decode cX5_clear 6 = .ok (.if_icmp .ge 16, 3) := by decide +kernel
theorem dX5_clear_9 : decode cX5_clear 9 = .ok (.aload_n 0, 1) := by decide +kernel
theorem dX5_clear_10 : decode cX5_clear 10 = .ok (.aload_n 1, 1) := by decide +kernel
theorem dX5_clear_11 : decode cX5_clear 11 = .ok (.iload_n 2, 1) := by decide +kernel
theorem dX5_clear_12 : decode cX5_clear 12 = .ok (.iconst (-1), 1) := by decide +kernel
theorem dX5_clear_13 : decode cX5_clear 13 = .ok (.invokevirtual 108, 3) := by decide +kernel
theorem dX5_clear_16 : decode cX5_clear 16 = .ok (.iinc 2 1, 3) := by decide +kernel
theorem dX5_clear_19 : decode cX5_clear 19 = .ok (.goto (-17), 3) := by decide +kernel
theorem dX5_clear_22 : decode cX5_clear 22 = .ok (.return_, 1) := by decide +kernel
theorem dX5_settle_0 : decode cX5_settle 0 = .ok (.aload_n 0, 1) := by decide +kernel
theorem dX5_settle_1 : decode cX5_settle 1 = .ok (.getfield 26, 3) := by decide +kernel
theorem dX5_settle_4 : decode cX5_settle 4 = .ok (.aload_n 0, 1) := by decide +kernel
theorem dX5_settle_5 : decode cX5_settle 5 = .ok (.getfield 36, 3) := by decide +kernel
theorem dX5_settle_8 : decode cX5_settle 8 = .ok (.invokevirtual 112, 3) := by decide +kernel
theorem dX5_settle_11 : decode cX5_settle 11 = .ok (.ireturn, 1) := by decide +kernel
theorem dX5_take_0 : decode cX5_take 0 = .ok (.aload_n 1, 1) := by decide +kernel
theorem dX5_take_1 : decode cX5_take 1 = .ok (.aload_n 0, 1) := by decide +kernel
theorem dX5_take_2 : decode cX5_take 2 = .ok (.iload_n 3, 1) := by decide +kernel
theorem dX5_take_3 : decode cX5_take 3 = .ok (.invokevirtual 115, 3) := by decide +kernel
theorem dX5_take_6 : decode cX5_take 6 = .ok (.putfield 76, 3) := by decide +kernel
theorem dX5_take_9 : decode cX5_take 9 = .ok (.aload_n 1, 1) := by decide +kernel
theorem dX5_take_10 : decode cX5_take 10 = .ok (.iload_n 3, 1) := by decide +kernel
theorem dX5_take_11 : decode cX5_take 11 = .ok (.putfield 89, 3) := by decide +kernel
theorem dX5_take_14 : decode cX5_take 14 = .ok (.aload_n 1, 1) := by decide +kernel
theorem dX5_take_15 : decode cX5_take 15 = .ok (.aload_n 0, 1) := by decide +kernel
