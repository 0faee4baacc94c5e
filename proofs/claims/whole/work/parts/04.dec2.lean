theorem dX6_readSnapshot_8 : decode cX6_readSnapshot 8 = .ok (.iload_n 1, 1) := by decide +kernel
theorem dX6_readSnapshot_9 : decode cX6_readSnapshot 9 = .ok (.invokevirtual 124, 3) := by decide +kernel
theorem dX6_readSnapshot_12 : decode cX6_readSnapshot 12 = .ok (.getfield 128, 3) := by decide +kernel
theorem dX6_readSnapshot_15 : decode cX6_readSnapshot 15 = .ok (.iload_n 2, 1) := by decide +kernel
theorem dX6_readSnapshot_16 : decode cX6_readSnapshot 16 = .ok (.iload_n 3, 1) := by decide +kernel
theorem dX6_readSnapshot_17 : decode cX6_readSnapshot 17 = .ok (.invokestatic 36, 3) := by decide +kernel
theorem dX6_readSnapshot_20 : decode cX6_readSnapshot 20 = .ok (.invokevirtual 40, 3) := by decide +kernel
theorem dX6_readSnapshot_23 : decode cX6_readSnapshot 23 = .ok (.invokevirtual 89, 3) := by decide +kernel
theorem dX6_readSnapshot_26 : decode cX6_readSnapshot 26 = .ok (.ireturn, 1) := by decide +kernel
theorem dX6_blockInSnapshot_0 : decode cX6_blockInSnapshot 0 = .ok (.aload_n 0, 1) := by decide +kernel
theorem dX6_blockInSnapshot_1 : decode cX6_blockInSnapshot 1 = .ok (.iload_n 1, 1) := by decide +kernel
theorem dX6_blockInSnapshot_2 : decode cX6_blockInSnapshot 2 = .ok (.invokevirtual 124, 3) := by decide +kernel
theorem dX6_blockInSnapshot_5 : decode cX6_blockInSnapshot 5 = .ok (.getfield 128, 3) := by decide +kernel
theorem dX6_blockInSnapshot_8 : decode cX6_blockInSnapshot 8 = .ok (.iload_n 2, 1) := by decide +kernel
theorem dX6_blockInSnapshot_9 : decode cX6_blockInSnapshot 9 = .ok (.iload_n 3, 1) := by decide +kernel
theorem dX6_blockInSnapshot_10 : decode cX6_blockInSnapshot 10 = .ok (.invokestatic 36, 3) := by decide +kernel
theorem dX6_blockInSnapshot_13 : decode cX6_blockInSnapshot 13 = .ok (.invokevirtual 40, 3) := by decide +kernel
theorem dX6_blockInSnapshot_16 : decode cX6_blockInSnapshot 16 = .ok (.ireturn, 1) := by decide +kernel
theorem dX6_transactionOf_0 : decode cX6_transactionOf 0 = .ok (.aload_n 0, 1) := by decide +kernel
theorem dX6_transactionOf_1 : decode cX6_transactionOf 1 = .ok (.iload_n 1, 1) := by decide +kernel
theorem dX6_transactionOf_2 : decode cX6_transactionOf 2 = .ok (.invokevirtual 124, 3) := by decide +kernel
theorem dX6_transactionOf_5 : decode cX6_transactionOf 5 = .ok (.getfield 129, 3) := by decide +kernel
theorem dX6_transactionOf_8 : decode cX6_transactionOf 8 = .ok (.ireturn, 1) := by decide +kernel
theorem dX6_datasetOf_0 : decode cX6_datasetOf 0 = .ok (.aload_n 0, 1) := by decide +kernel
theorem dX6_datasetOf_1 : decode cX6_datasetOf 1 = .ok (.iload_n 1, 1) := by decide +kernel
theorem dX6_datasetOf_2 : decode cX6_datasetOf 2 = .ok (.invokevirtual 124, 3) := by decide +kernel
theorem dX6_datasetOf_5 : decode cX6_datasetOf 5 = .ok (.getfield 132, 3) := by decide +kernel
theorem dX6_datasetOf_8 : decode cX6_datasetOf 8 = .ok (.ireturn, 1) := by decide +kernel
theorem dX6_snapshots_0 : decode cX6_snapshots 0 = .ok (.aload_n 0, 1) := by decide +kernel
theorem dX6_snapshots_1 : decode cX6_snapshots 1 = .ok (.iload_n 1, 1) := by decide +kernel
theorem dX6_snapshots_2 : decode cX6_snapshots 2 = .ok (.invokevirtual 26, 3) := by decide +kernel
theorem dX6_snapshots_5 : decode cX6_snapshots 5 = .ok (.pop, 1) := by decide +kernel
theorem dX6_snapshots_6 : decode cX6_snapshots 6 = .ok (.aload_n 0, 1) := by decide +kernel
theorem dX6_snapshots_7 : decode cX6_snapshots 7 = .ok (.getfield 12, 3) := by decide +kernel
theorem dX6_snapshots_10 : decode cX6_snapshots 10 = .ok (.iload_n 1, 1) := by decide +kernel
theorem dX6_snapshots_11 : decode cX6_snapshots 11 = .ok (.invokevirtual 135, 3) := by decide +kernel
theorem dX6_snapshots_14 : decode cX6_snapshots 14 = .ok (.ireturn, 1) := by decide +kernel
theorem dX6_snapshotAt_0 : decode cX6_snapshotAt 0 = .ok (.aload_n 0, 1) := by decide +kernel
theorem dX6_snapshotAt_1 : decode cX6_snapshotAt 1 = .ok (.iload_n 1, 1) := by decide +kernel
theorem dX6_snapshotAt_2 : decode cX6_snapshotAt 2 = .ok (.invokevirtual 26, 3) := by decide +kernel
theorem dX6_snapshotAt_5 : decode cX6_snapshotAt 5 = .ok (.pop, 1) := by decide +kernel
theorem dX6_snapshotAt_6 : decode cX6_snapshotAt 6 = .ok (.aload_n 0, 1) := by decide +kernel
theorem dX6_snapshotAt_7 : decode cX6_snapshotAt 7 = .ok (.getfield 12, 3) := by decide +kernel
theorem dX6_snapshotAt_10 : decode cX6_snapshotAt 10 = .ok (.iload_n 1, 1) := by decide +kernel
theorem dX6_snapshotAt_11 : decode cX6_snapshotAt 11 = .ok (.iload_n 2, 1) := by decide +kernel
theorem dX6_snapshotAt_12 : decode cX6_snapshotAt 12 = .ok (.invokevirtual 138, 3) := by decide +kernel
theorem dX6_snapshotAt_15 : decode cX6_snapshotAt 15 = .ok (.astore_n 3, 1) := by decide +kernel
theorem dX6_snapshotAt_16 : decode cX6_snapshotAt 16 = .ok (.aload_n 3, 1) := by decide +kernel
theorem dX6_snapshotAt_17 : decode cX6_snapshotAt 17 = .ok (.ifnonnull 13, 3) := by decide +kernel
theorem dX6_snapshotAt_20 : decode cX6_snapshotAt 20 = .ok (.new 142, 3) := by decide +kernel
theorem dX6_snapshotAt_23 : decode cX6_snapshotAt 23 = .ok (.dup, 1) := by decide +kernel
theorem dX6_snapshotAt_24 : decode cX6_snapshotAt 24 = .ok (.ldc 144, 2) := by decide +kernel
theorem dX6_snapshotAt_26 : decode cX6_snapshotAt 26 = .ok (.invokespecial 146, 3) := by decide +kernel
theorem dX6_snapshotAt_29 : decode cX6_snapshotAt 29 = .ok (.athrow, 1) := by decide +kernel
theorem dX6_snapshotAt_30 : decode cX6_snapshotAt 30 = .ok (.aload_n 3, 1) := by decide +kernel
theorem dX6_snapshotAt_31 : decode cX6_snapshotAt 31 = .ok (.getfield 121, 3) := by decide +kernel
theorem dX6_snapshotAt_34 : decode cX6_snapshotAt 34 = .ok (.ireturn, 1) := by decide +kernel
theorem dX6_destroySnapshot_0 : decode cX6_destroySnapshot 0 = .ok (.aload_n 0, 1) := by decide +kernel
theorem dX6_destroySnapshot_1 : decode cX6_destroySnapshot 1 = .ok (.iload_n 1, 1) := by decide +kernel
theorem dX6_destroySnapshot_2 : decode cX6_destroySnapshot 2 = .ok (.invokevirtual 124, 3) := by decide +kernel
theorem dX6_destroySnapshot_5 : decode cX6_destroySnapshot 5 = .ok (.astore_n 2, 1) := by decide +kernel
theorem dX6_destroySnapshot_6 : decode cX6_destroySnapshot 6 = .ok (.aload_n 0, 1) := by decide +kernel
theorem dX6_destroySnapshot_7 : decode cX6_destroySnapshot 7 = .ok (.getfield 12, 3) := by decide +kernel
theorem dX6_destroySnapshot_10 : decode cX6_destroySnapshot 10 = .ok (.iload_n 1, 1) := by decide +kernel
theorem dX6_destroySnapshot_11 : decode cX6_destroySnapshot 11 = .ok (.invokevirtual 147, 3) := by decide +kernel
theorem dX6_destroySnapshot_14 : decode cX6_destroySnapshot 14 = .ok (.ifCond .eq 13, 3) := by decide +kernel
theorem dX6_destroySnapshot_17 : decode cX6_destroySnapshot 17 = .ok (.new 71, 3) := by decide +kernel
theorem dX6_destroySnapshot_20 : decode cX6_destroySnapshot 20 = .ok (.dup, 1) := by decide +kernel
theorem dX6_destroySnapshot_21 : decode cX6_destroySnapshot 21 = .ok (.ldc 151, 2) := by decide +kernel
theorem dX6_destroySnapshot_23 : decode cX6_destroySnapshot 23 = .ok (.invokespecial 75, 3) := by decide +kernel
theorem dX6_destroySnapshot_26 : decode cX6_destroySnapshot 26 = .ok (.athrow, 1) := by decide +kernel
theorem dX6_destroySnapshot_27 : decode cX6_destroySnapshot 27 = .ok (.aload_n 0, 1) := by decide +kernel
theorem dX6_destroySnapshot_28 : decode cX6_destroySnapshot 28 = .ok (.getfield 12, 3) := by decide +kernel
theorem dX6_destroySnapshot_31 : decode cX6_destroySnapshot 31 = .ok (.aload_n 2, 1) := by decide +kernel
theorem dX6_destroySnapshot_32 : decode cX6_destroySnapshot 32 = .ok (.invokevirtual 153, 3) := by decide +kernel
theorem dX6_destroySnapshot_35 : decode cX6_destroySnapshot 35 = .ok (.aload_n 0, 1) := by decide +kernel
theorem dX6_destroySnapshot_36 : decode cX6_destroySnapshot 36 = .ok (.getfield 12, 3) := by decide +kernel
theorem dX6_destroySnapshot_39 : decode cX6_destroySnapshot 39 = .ok (.invokevirtual 86, 3) := by decide +kernel
theorem dX6_destroySnapshot_42 : decode cX6_destroySnapshot 42 = .ok (.ireturn, 1) := by decide +kernel
theorem dX6_rollback_0 : decode cX6_rollback 0 = .ok (.aload_n 0, 1) := by decide +kernel
theorem dX6_rollback_1 : decode cX6_rollback 1 = .ok (.iload_n 1, 1) := by decide +kernel
theorem dX6_rollback_2 : decode cX6_rollback 2 = .ok (.invokevirtual 26, 3) := by decide +kernel
theorem dX6_rollback_5 : decode cX6_rollback 5 = .ok (.astore_n 3, 1) := by decide +kernel
theorem dX6_rollback_6 : decode cX6_rollback 6 = .ok (.aload_n 0, 1) := by decide +kernel
theorem dX6_rollback_7 : decode cX6_rollback 7 = .ok (.iload_n 2, 1) := by decide +kernel
theorem dX6_rollback_8 : decode cX6_rollback 8 = .ok (.invokevirtual 124, 3) := by decide +kernel
theorem dX6_rollback_11 : decode cX6_rollback 11 = .ok (.astore 4, 2) := by decide +kernel
theorem dX6_rollback_13 : decode cX6_rollback 13 = .ok (.aload 4, 2) := by decide +kernel
theorem dX6_rollback_15 : decode cX6_rollback 15 = .ok (.getfield 132, 3) := by decide +kernel
theorem dX6_rollback_18 : decode cX6_rollback 18 = .ok (.iload_n 1, 1) := by decide +kernel
theorem dX6_rollback_19 : decode cX6_rollback 19 = .ok (.if_icmp .eq 13, 3) := by decide +kernel
theorem dX6_rollback_22 : decode cX6_rollback 22 = .ok (.new 95, 3) := by decide +kernel
theorem dX6_rollback_25 : decode cX6_rollback 25 = .ok (.dup, 1) := by decide +kernel
theorem dX6_rollback_26 : decode cX6_rollback 26 = .ok (.ldc 157, 2) := by decide +kernel
theorem dX6_rollback_28 : decode cX6_rollback 28 = .ok (.invokespecial 99, 3) := by decide +kernel
theorem dX6_rollback_31 : decode cX6_rollback 31 = .ok (.athrow, 1) := by decide +kernel
theorem dX6_rollback_32 : decode cX6_rollback 32 = .ok (.aload_n 0, 1) := by decide +kernel
theorem dX6_rollback_33 : decode cX6_rollback 33 = .ok (.getfield 12, 3) := by decide +kernel
theorem dX6_rollback_36 : decode cX6_rollback 36 = .ok (.aload 4, 2) := by decide +kernel
theorem dX6_rollback_38 : decode cX6_rollback 38 = .ok (.invokevirtual 159, 3) := by decide +kernel
theorem dX6_rollback_41 : decode cX6_rollback 41 = .ok (.ifCond .eq 13, 3) := by decide +kernel
theorem dX6_rollback_44 : decode cX6_rollback 44 = .ok (.new 71, 3) := by decide +kernel
theorem dX6_rollback_47 : decode cX6_rollback 47 = .ok (.dup, 1) := by decide +kernel
theorem dX6_rollback_48 : decode cX6_rollback 48 = .ok (.ldc 163, 2) := by decide +kernel
theorem dX6_rollback_50 : decode cX6_rollback 50 = .ok (.invokespecial 75, 3) := by decide +kernel
theorem dX6_rollback_53 : decode cX6_rollback 53 = .ok (.athrow, 1) := by decide +kernel
theorem dX6_rollback_54 : decode cX6_rollback 54 = .ok (.aload_n 0, 1) := by decide +kernel
theorem dX6_rollback_55 : decode cX6_rollback 55 = .ok (.getfield 12, 3) := by decide +kernel
theorem dX6_rollback_58 : decode cX6_rollback 58 = .ok (.aload_n 3, 1) := by decide +kernel
theorem dX6_rollback_59 : decode cX6_rollback 59 = .ok (.getfield 30, 3) := by decide +kernel
theorem dX6_rollback_62 : decode cX6_rollback 62 = .ok (.aload 4, 2) := by decide +kernel
theorem dX6_rollback_64 : decode cX6_rollback 64 = .ok (.getfield 128, 3) := by decide +kernel
theorem dX6_rollback_67 : decode cX6_rollback 67 = .ok (.invokevirtual 165, 3) := by decide +kernel
theorem dX6_rollback_70 : decode cX6_rollback 70 = .ok (.aload_n 0, 1) := by decide +kernel
theorem dX6_rollback_71 : decode cX6_rollback 71 = .ok (.getfield 12, 3) := by decide +kernel
theorem dX6_rollback_74 : decode cX6_rollback 74 = .ok (.aload 4, 2) := by decide +kernel
theorem dX6_rollback_76 : decode cX6_rollback 76 = .ok (.invokevirtual 169, 3) := by decide +kernel
theorem dX6_rollback_79 : decode cX6_rollback 79 = .ok (.istore 5, 2) := by decide +kernel
theorem dX6_rollback_81 : decode cX6_rollback 81 = .ok (.aload_n 0, 1) := by decide +kernel
theorem dX6_rollback_82 : decode cX6_rollback 82 = .ok (.getfield 12, 3) := by decide +kernel
theorem dX6_rollback_85 : decode cX6_rollback 85 = .ok (.invokevirtual 86, 3) := by decide +kernel
theorem dX6_rollback_88 : decode cX6_rollback 88 = .ok (.pop, 1) := by decide +kernel
theorem dX6_rollback_89 : decode cX6_rollback 89 = .ok (.iload 5, 2) := by decide +kernel
theorem dX6_rollback_91 : decode cX6_rollback 91 = .ok (.ireturn, 1) := by decide +kernel
theorem dX6_changed_0 : decode cX6_changed 0 = .ok (.aload_n 0, 1) := by decide +kernel
theorem dX6_changed_1 : decode cX6_changed 1 = .ok (.iload_n 1, 1) := by decide +kernel
theorem dX6_changed_2 : decode cX6_changed 2 = .ok (.invokevirtual 124, 3) := by decide +kernel
theorem dX6_changed_5 : decode cX6_changed 5 = .ok (.getfield 128, 3) := by decide +kernel
theorem dX6_changed_8 : decode cX6_changed 8 = .ok (.astore_n 3, 1) := by decide +kernel
theorem dX6_changed_9 : decode cX6_changed 9 = .ok (.aload_n 0, 1) := by decide +kernel
theorem dX6_changed_10 : decode cX6_changed 10 = .ok (.iload_n 2, 1) := by decide +kernel
theorem dX6_changed_11 : decode cX6_changed 11 = .ok (.invokevirtual 26, 3) := by decide +kernel
theorem dX6_changed_14 : decode cX6_changed 14 = .ok (.getfield 30, 3) := by decide +kernel
theorem dX6_changed_17 : decode cX6_changed 17 = .ok (.astore 4, 2) := by decide +kernel
theorem dX6_changed_19 : decode cX6_changed 19 = .ok (.iconst 0, 1) := by decide +kernel
theorem dX6_changed_20 : decode cX6_changed 20 = .ok (.istore 5, 2) := by decide +kernel
theorem dX6_changed_22 : decode cX6_changed 22 = .ok (.iconst 0, 1) := by decide +kernel
theorem dX6_changed_23 : decode cX6_changed 23 = .ok (.istore 6, 2) := by decide +kernel
theorem dX6_changed_25 : decode cX6_changed 25 = .ok (.iload 6, 2) := by decide +kernel
theorem dX6_changed_27 : decode cX6_changed 27 = .ok (.sipush 128, 3) := by decide +kernel
theorem dX6_changed_30 : decode cX6_changed 30 = .ok (.if_icmp .ge 28, 3) := by decide +kernel
theorem dX6_changed_33 : decode cX6_changed 33 = .ok (.aload_n 3, 1) := by decide +kernel
theorem dX6_changed_34 : decode cX6_changed 34 = .ok (.iload 6, 2) := by decide +kernel
theorem dX6_changed_36 : decode cX6_changed 36 = .ok (.invokevirtual 40, 3) := by decide +kernel
theorem dX6_changed_39 : decode cX6_changed 39 = .ok (.aload 4, 2) := by decide +kernel
theorem dX6_changed_41 : decode cX6_changed 41 = .ok (.iload 6, 2) := by decide +kernel
theorem dX6_changed_43 : decode cX6_changed 43 = .ok (.invokevirtual 40, 3) := by decide +kernel
theorem dX6_changed_46 : decode cX6_changed 46 = .ok (.if_icmp .eq 6, 3) := by decide +kernel
theorem dX6_changed_49 : decode cX6_changed 49 = .ok (.iinc 5 1, 3) := by decide +kernel
theorem dX6_changed_52 : decode cX6_changed 52 = .ok (.iinc 6 1, 3) := by decide +kernel
theorem dX6_changed_55 : decode cX6_changed 55 = .ok (.goto (-30), 3) := by decide +kernel
theorem dX6_changed_58 : decode cX6_changed 58 = .ok (.iload 5, 2) := by decide +kernel
theorem dX6_changed_60 : decode cX6_changed 60 = .ok (.ireturn, 1) := by decide +kernel
theorem dX6_datasets_0 : decode cX6_datasets 0 = .ok (.aload_n 0, 1) := by decide +kernel
theorem dX6_datasets_1 : decode cX6_datasets 1 = .ok (.getfield 12, 3) := by decide +kernel
theorem dX6_datasets_4 : decode cX6_datasets 4 = .ok (.invokevirtual 173, 3) := by decide +kernel
theorem dX6_datasets_7 : decode cX6_datasets 7 = .ok (.ireturn, 1) := by decide +kernel
theorem dX6_makeClone_0 : decode cX6_makeClone 0 = .ok (.aload_n 0, 1) := by decide +kernel
theorem dX6_makeClone_1 : decode cX6_makeClone 1 = .ok (.iload_n 1, 1) := by decide +kernel
theorem dX6_makeClone_2 : decode cX6_makeClone 2 = .ok (.invokevirtual 124, 3) := by decide +kernel
theorem dX6_makeClone_5 : decode cX6_makeClone 5 = .ok (.astore_n 2, 1) := by decide +kernel
theorem dX6_makeClone_6 : decode cX6_makeClone 6 = .ok (.aload_n 0, 1) := by decide +kernel
theorem dX6_makeClone_7 : decode cX6_makeClone 7 = .ok (.getfield 12, 3) := by decide +kernel
theorem dX6_makeClone_10 : decode cX6_makeClone 10 = .ok (.invokevirtual 176, 3) := by decide +kernel
theorem dX6_makeClone_13 : decode cX6_makeClone 13 = .ok (.istore_n 3, 1) := by decide +kernel
theorem dX6_makeClone_14 : decode cX6_makeClone 14 = .ok (.iload_n 3, 1) := by decide +kernel
theorem dX6_makeClone_15 : decode cX6_makeClone 15 = .ok (.iconst (-1), 1) := by decide +kernel
theorem dX6_makeClone_16 : decode cX6_makeClone 16 = .ok (.if_icmp .ne 13, 3) := by decide +kernel
theorem dX6_makeClone_19 : decode cX6_makeClone 19 = .ok (.new 71, 3) := by decide +kernel
theorem dX6_makeClone_22 : decode cX6_makeClone 22 = .ok (.dup, 1) := by decide +kernel
theorem dX6_makeClone_23 : decode cX6_makeClone 23 = .ok (.ldc 179, 2) := by decide +kernel
theorem dX6_makeClone_25 : decode cX6_makeClone 25 = .ok (.invokespecial 75, 3) := by decide +kernel
theorem dX6_makeClone_28 : decode cX6_makeClone 28 = .ok (.athrow, 1) := by decide +kernel
theorem dX6_makeClone_29 : decode cX6_makeClone 29 = .ok (.aload_n 0, 1) := by decide +kernel
theorem dX6_makeClone_30 : decode cX6_makeClone 30 = .ok (.getfield 12, 3) := by decide +kernel
theorem dX6_makeClone_33 : decode cX6_makeClone 33 = .ok (.iload_n 3, 1) := by decide +kernel
theorem dX6_makeClone_34 : decode cX6_makeClone 34 = .ok (.aload_n 2, 1) := by decide +kernel
theorem dX6_makeClone_35 : decode cX6_makeClone 35 = .ok (.invokevirtual 181, 3) := by decide +kernel
theorem dX6_makeClone_38 : decode cX6_makeClone 38 = .ok (.iload_n 3, 1) := by decide +kernel
theorem dX6_makeClone_39 : decode cX6_makeClone 39 = .ok (.ireturn, 1) := by decide +kernel
theorem dX6_origin_0 : decode cX6_origin 0 = .ok (.aload_n 0, 1) := by decide +kernel
theorem dX6_origin_1 : decode cX6_origin 1 = .ok (.iload_n 1, 1) := by decide +kernel
theorem dX6_origin_2 : decode cX6_origin 2 = .ok (.invokevirtual 26, 3) := by decide +kernel
theorem dX6_origin_5 : decode cX6_origin 5 = .ok (.getfield 185, 3) := by decide +kernel
theorem dX6_origin_8 : decode cX6_origin 8 = .ok (.ireturn, 1) := by decide +kernel
theorem dX6_promote_0 : decode cX6_promote 0 = .ok (.aload_n 0, 1) := by decide +kernel
theorem dX6_promote_1 : decode cX6_promote 1 = .ok (.iload_n 1, 1) := by decide +kernel
theorem dX6_promote_2 : decode cX6_promote 2 = .ok (.invokevirtual 26, 3) := by decide +kernel
theorem dX6_promote_5 : decode cX6_promote 5 = .ok (.astore_n 2, 1) := by decide +kernel
theorem dX6_promote_6 : decode cX6_promote 6 = .ok (.aload_n 0, 1) := by decide +kernel
theorem dX6_promote_7 : decode cX6_promote 7 = .ok (.getfield 12, 3) := by decide +kernel
theorem dX6_promote_10 : decode cX6_promote 10 = .ok (.aload_n 2, 1) := by decide +kernel
theorem dX6_promote_11 : decode cX6_promote 11 = .ok (.getfield 185, 3) := by decide +kernel
theorem dX6_promote_14 : decode cX6_promote 14 = .ok (.invokevirtual 188, 3) := by decide +kernel
theorem dX6_promote_17 : decode cX6_promote 17 = .ok (.astore_n 3, 1) := by decide +kernel
theorem dX6_promote_18 : decode cX6_promote 18 = .ok (.aload_n 3, 1) := by decide +kernel
theorem dX6_promote_19 : decode cX6_promote 19 = .ok (.ifnonnull 13, 3) := by decide +kernel
theorem dX6_promote_22 : decode cX6_promote 22 = .ok (.new 71, 3) := by decide +kernel
theorem dX6_promote_25 : decode cX6_promote 25 = .ok (.dup, 1) := by decide +kernel
theorem dX6_promote_26 : decode cX6_promote 26 = .ok (.ldc 191, 2) := by decide +kernel
theorem dX6_promote_28 : decode cX6_promote 28 = .ok (.invokespecial 75, 3) := by decide +kernel
theorem dX6_promote_31 : decode cX6_promote 31 = .ok (.athrow, 1) := by decide +kernel
theorem dX6_promote_32 : decode cX6_promote 32 = .ok (.aload_n 0, 1) := by decide +kernel
theorem dX6_promote_33 : decode cX6_promote 33 = .ok (.getfield 12, 3) := by decide +kernel
theorem dX6_promote_36 : decode cX6_promote 36 = .ok (.aload_n 3, 1) := by decide +kernel
theorem dX6_promote_37 : decode cX6_promote 37 = .ok (.getfield 132, 3) := by decide +kernel
theorem dX6_promote_40 : decode cX6_promote 40 = .ok (.invokevirtual 193, 3) := by decide +kernel
theorem dX6_promote_43 : decode cX6_promote 43 = .ok (.astore 4, 2) := by decide +kernel
theorem dX6_promote_45 : decode cX6_promote 45 = .ok (.aload 4, 2) := by decide +kernel
theorem dX6_promote_47 : decode cX6_promote 47 = .ok (.ifnull 30, 3) := by decide +kernel
theorem dX6_promote_50 : decode cX6_promote 50 = .ok (.aload_n 0, 1) := by decide +kernel
theorem dX6_promote_51 : decode cX6_promote 51 = .ok (.getfield 12, 3) := by decide +kernel
theorem dX6_promote_54 : decode cX6_promote 54 = .ok (.aload_n 3, 1) := by decide +kernel
theorem dX6_promote_55 : decode cX6_promote 55 = .ok (.iload_n 1, 1) := by decide +kernel
theorem dX6_promote_56 : decode cX6_promote 56 = .ok (.invokevirtual 196, 3) := by decide +kernel
theorem dX6_promote_59 : decode cX6_promote 59 = .ok (.aload_n 2, 1) := by decide +kernel
theorem dX6_promote_60 : decode cX6_promote 60 = .ok (.aload 4, 2) := by decide +kernel
theorem dX6_promote_62 : decode cX6_promote 62 = .ok (.getfield 185, 3) := by decide +kernel
theorem dX6_promote_65 : decode cX6_promote 65 = .ok (.putfield 185, 3) := by decide +kernel
theorem dX6_promote_68 : decode cX6_promote 68 = .ok (.aload 4, 2) := by decide +kernel
theorem dX6_promote_70 : decode cX6_promote 70 = .ok (.aload_n 3, 1) := by decide +kernel
theorem dX6_promote_71 : decode cX6_promote 71 = .ok (.getfield 121, 3) := by decide +kernel
theorem dX6_promote_74 : decode cX6_promote 74 = .ok (.putfield 185, 3) := by decide +kernel
theorem dX6_promote_77 : decode cX6_promote 77 = .ok (.aload_n 0, 1) := by decide +kernel
theorem dX6_promote_78 : decode cX6_promote 78 = .ok (.getfield 12, 3) := by decide +kernel
theorem dX6_promote_81 : decode cX6_promote 81 = .ok (.iload_n 1, 1) := by decide +kernel
theorem dX6_promote_82 : decode cX6_promote 82 = .ok (.invokevirtual 135, 3) := by decide +kernel
theorem dX6_promote_85 : decode cX6_promote 85 = .ok (.ireturn, 1) := by decide +kernel
theorem dX6_destroy_0 : decode cX6_destroy 0 = .ok (.aload_n 0, 1) := by decide +kernel
theorem dX6_destroy_1 : decode cX6_destroy 1 = .ok (.iload_n 1, 1) := by decide +kernel
theorem dX6_destroy_2 : decode cX6_destroy 2 = .ok (.invokevirtual 26, 3) := by decide +kernel
theorem dX6_destroy_5 : decode cX6_destroy 5 = .ok (.astore_n 2, 1) := by decide +kernel
theorem dX6_destroy_6 : decode cX6_destroy 6 = .ok (.aload_n 0, 1) := by decide +kernel
theorem dX6_destroy_7 : decode cX6_destroy 7 = .ok (.getfield 12, 3) := by decide +kernel
theorem dX6_destroy_10 : decode cX6_destroy 10 = .ok (.iload_n 1, 1) := by decide +kernel
theorem dX6_destroy_11 : decode cX6_destroy 11 = .ok (.invokevirtual 135, 3) := by decide +kernel
theorem dX6_destroy_14 : decode cX6_destroy 14 = .ok (.ifCond .le 13, 3) := by decide +kernel
theorem dX6_destroy_17 : decode cX6_destroy 17 = .ok (.new 71, 3) := by decide +kernel
theorem dX6_destroy_20 : decode cX6_destroy 20 = .ok (.dup, 1) := by decide +kernel
theorem dX6_destroy_21 : decode cX6_destroy 21 = .ok (.ldc 200, 2) := by decide +kernel
theorem dX6_destroy_23 : decode cX6_destroy 23 = .ok (.invokespecial 75, 3) := by decide +kernel
theorem dX6_destroy_26 : decode cX6_destroy 26 = .ok (.athrow, 1) := by decide +kernel
theorem dX6_destroy_27 : decode cX6_destroy 27 = .ok (.aload_n 0, 1) := by decide +kernel
theorem dX6_destroy_28 : decode cX6_destroy 28 = .ok (.getfield 12, 3) := by decide +kernel
theorem dX6_destroy_31 : decode cX6_destroy 31 = .ok (.invokevirtual 173, 3) := by decide +kernel
theorem dX6_destroy_34 : decode cX6_destroy 34 = .ok (.iconst 1, 1) := by decide +kernel
theorem dX6_destroy_35 : decode cX6_destroy 35 = .ok (.if_icmp .ne 13, 3) := by decide +kernel
theorem dX6_destroy_38 : decode cX6_destroy 38 = .ok (.new 71, 3) := by decide +kernel
theorem dX6_destroy_41 : decode cX6_destroy 41 = .ok (.dup, 1) := by decide +kernel
theorem dX6_destroy_42 : decode cX6_destroy 42 = .ok (.ldc 202, 2) := by decide +kernel
theorem dX6_destroy_44 : decode cX6_destroy 44 = .ok (.invokespecial 75, 3) := by decide +kernel
theorem dX6_destroy_47 : decode cX6_destroy 47 = .ok (.athrow, 1) := by decide +kernel
theorem dX6_destroy_48 : decode cX6_destroy 48 = .ok (.aload_n 0, 1) := by decide +kernel
theorem dX6_destroy_49 : decode cX6_destroy 49 = .ok (.getfield 12, 3) := by decide +kernel
theorem dX6_destroy_52 : decode cX6_destroy 52 = .ok (.aload_n 2, 1) := by decide +kernel
theorem dX6_destroy_53 : decode cX6_destroy 53 = .ok (.getfield 30, 3) := by decide +kernel
theorem dX6_destroy_56 : decode cX6_destroy 56 = .ok (.invokevirtual 204, 3) := by decide +kernel
theorem dX6_destroy_59 : decode cX6_destroy 59 = .ok (.aload_n 2, 1) := by decide +kernel
theorem dX6_destroy_60 : decode cX6_destroy 60 = .ok (.iconst 0, 1) := by decide +kernel
theorem dX6_destroy_61 : decode cX6_destroy 61 = .ok (.putfield 208, 3) := by decide +kernel
theorem dX6_destroy_64 : decode cX6_destroy 64 = .ok (.aload_n 2, 1) := by decide +kernel
theorem dX6_destroy_65 : decode cX6_destroy 65 = .ok (.iconst (-1), 1) := by decide +kernel
theorem dX6_destroy_66 : decode cX6_destroy 66 = .ok (.putfield 185, 3) := by decide +kernel
theorem dX6_destroy_69 : decode cX6_destroy 69 = .ok (.aload_n 0, 1) := by decide +kernel
theorem dX6_destroy_70 : decode cX6_destroy 70 = .ok (.getfield 12, 3) := by decide +kernel
theorem dX6_destroy_73 : decode cX6_destroy 73 = .ok (.invokevirtual 86, 3) := by decide +kernel
theorem dX6_destroy_76 : decode cX6_destroy 76 = .ok (.ireturn, 1) := by decide +kernel
theorem dX6_referenced_0 : decode cX6_referenced 0 = .ok (.aload_n 0, 1) := by decide +kernel
theorem dX6_referenced_1 : decode cX6_referenced 1 = .ok (.aload_n 0, 1) := by decide +kernel
theorem dX6_referenced_2 : decode cX6_referenced 2 = .ok (.iload_n 1, 1) := by decide +kernel
theorem dX6_referenced_3 : decode cX6_referenced 3 = .ok (.invokevirtual 26, 3) := by decide +kernel
theorem dX6_referenced_6 : decode cX6_referenced 6 = .ok (.getfield 30, 3) := by decide +kernel
theorem dX6_referenced_9 : decode cX6_referenced 9 = .ok (.invokevirtual 212, 3) := by decide +kernel
theorem dX6_referenced_12 : decode cX6_referenced 12 = .ok (.iconst 0, 1) := by decide +kernel
theorem dX6_referenced_13 : decode cX6_referenced 13 = .ok (.istore_n 2, 1) := by decide +kernel
theorem dX6_referenced_14 : decode cX6_referenced 14 = .ok (.iconst 0, 1) := by decide +kernel
theorem dX6_referenced_15 : decode cX6_referenced 15 = .ok (.istore_n 3, 1) := by decide +kernel
theorem dX6_referenced_16 : decode cX6_referenced 16 = .ok (.iload_n 3, 1) := by decide +kernel
theorem dX6_referenced_17 : decode cX6_referenced 17 = .ok (.aload_n 0, 1) := by decide +kernel
theorem dX6_referenced_18 : decode cX6_referenced 18 = .ok (.getfield 23, 3) := by decide +kernel
theorem dX6_referenced_21 : decode cX6_referenced 21 = .ok (.arraylength, 1) := by decide +kernel
theorem dX6_referenced_22 : decode cX6_referenced 22 = .ok (.if_icmp .ge 21, 3) := by decide +kernel
theorem dX6_referenced_25 : decode cX6_referenced 25 = .ok (.aload_n 0, 1) := by decide +kernel
theorem dX6_referenced_26 : decode cX6_referenced 26 = .ok (.getfield 23, 3) := by decide +kernel
theorem dX6_referenced_29 : decode cX6_referenced 29 = .ok (.iload_n 3, 1) := by decide +kernel
theorem dX6_referenced_30 : decode cX6_referenced 30 = .ok (.iaload, 1) := by decide +kernel
theorem dX6_referenced_31 : decode cX6_referenced 31 = .ok (.ifCond .le 6, 3) := by decide +kernel
theorem dX6_referenced_34 : decode cX6_referenced 34 = .ok (.iinc 2 1, 3) := by decide +kernel
theorem dX6_referenced_37 : decode cX6_referenced 37 = .ok (.iinc 3 1, 3) := by decide +kernel
theorem dX6_referenced_40 : decode cX6_referenced 40 = .ok (.goto (-24), 3) := by decide +kernel
theorem dX6_referenced_43 : decode cX6_referenced 43 = .ok (.iload_n 2, 1) := by decide +kernel
theorem dX6_referenced_44 : decode cX6_referenced 44 = .ok (.ireturn, 1) := by decide +kernel
theorem dX6_unique_0 : decode cX6_unique 0 = .ok (.aload_n 0, 1) := by decide +kernel
theorem dX6_unique_1 : decode cX6_unique 1 = .ok (.aload_n 0, 1) := by decide +kernel
theorem dX6_unique_2 : decode cX6_unique 2 = .ok (.iload_n 1, 1) := by decide +kernel
theorem dX6_unique_3 : decode cX6_unique 3 = .ok (.invokevirtual 26, 3) := by decide +kernel
theorem dX6_unique_6 : decode cX6_unique 6 = .ok (.getfield 30, 3) := by decide +kernel
theorem dX6_unique_9 : decode cX6_unique 9 = .ok (.invokevirtual 215, 3) := by decide +kernel
theorem dX6_unique_12 : decode cX6_unique 12 = .ok (.ireturn, 1) := by decide +kernel
theorem dX6_uniqueOfSnapshot_0 : decode cX6_uniqueOfSnapshot 0 = .ok (.aload_n 0, 1) := by decide +kernel
theorem dX6_uniqueOfSnapshot_1 : decode cX6_uniqueOfSnapshot 1 = .ok (.aload_n 0, 1) := by decide +kernel
theorem dX6_uniqueOfSnapshot_2 : decode cX6_uniqueOfSnapshot 2 = .ok (.iload_n 1, 1) := by decide +kernel
theorem dX6_uniqueOfSnapshot_3 : decode cX6_uniqueOfSnapshot 3 = .ok (.invokevirtual 124, 3) := by decide +kernel
theorem dX6_uniqueOfSnapshot_6 : decode cX6_uniqueOfSnapshot 6 = .ok (.getfield 128, 3) := by decide +kernel
theorem dX6_uniqueOfSnapshot_9 : decode cX6_uniqueOfSnapshot 9 = .ok (.invokevirtual 215, 3) := by decide +kernel
theorem dX6_uniqueOfSnapshot_12 : decode cX6_uniqueOfSnapshot 12 = .ok (.ireturn, 1) := by decide +kernel
theorem dX6_newer_0 : decode cX6_newer 0 = .ok (.aload_n 0, 1) := by decide +kernel
theorem dX6_newer_1 : decode cX6_newer 1 = .ok (.iload_n 1, 1) := by decide +kernel
theorem dX6_newer_2 : decode cX6_newer 2 = .ok (.invokevirtual 26, 3) := by decide +kernel
theorem dX6_newer_5 : decode cX6_newer 5 = .ok (.getfield 30, 3) := by decide +kernel
theorem dX6_newer_8 : decode cX6_newer 8 = .ok (.astore_n 3, 1) := by decide +kernel
theorem dX6_newer_9 : decode cX6_newer 9 = .ok (.iconst 0, 1) := by decide +kernel
theorem dX6_newer_10 : decode cX6_newer 10 = .ok (.istore 4, 2) := by decide +kernel
theorem dX6_newer_12 : decode cX6_newer 12 = .ok (.iconst 0, 1) := by decide +kernel
theorem dX6_newer_13 : decode cX6_newer 13 = .ok (.istore 5, 2) := by decide +kernel
theorem dX6_newer_15 : decode cX6_newer 15 = .ok (.iload 5, 2) := by decide +kernel
theorem dX6_newer_17 : decode cX6_newer 17 = .ok (.sipush 128, 3) := by decide +kernel
theorem dX6_newer_20 : decode cX6_newer 20 = .ok (.if_icmp .ge 42, 3) := by decide +kernel
theorem dX6_newer_23 : decode cX6_newer 23 = .ok (.aload_n 3, 1) := by decide +kernel
theorem dX6_newer_24 : decode cX6_newer 24 = .ok (.iload 5, 2) := by decide +kernel
theorem dX6_newer_26 : decode cX6_newer 26 = .ok (.invokevirtual 40, 3) := by decide +kernel
theorem dX6_newer_29 : decode cX6_newer 29 = .ok (.istore 6, 2) := by decide +kernel
theorem dX6_newer_31 : decode cX6_newer 31 = .ok (.iload 6, 2) := by decide +kernel
theorem dX6_newer_33 : decode cX6_newer 33 = .ok (.iconst (-1), 1) := by decide +kernel
theorem dX6_newer_34 : decode cX6_newer 34 = .ok (.if_icmp .eq 22, 3) := by decide +kernel
theorem dX6_newer_37 : decode cX6_newer 37 = .ok (.aload_n 0, 1) := by decide +kernel
theorem dX6_newer_38 : decode cX6_newer 38 = .ok (.getfield 12, 3) := by decide +kernel
theorem dX6_newer_41 : decode cX6_newer 41 = .ok (.getfield 46, 3) := by decide +kernel
theorem dX6_newer_44 : decode cX6_newer 44 = .ok (.iload 6, 2) := by decide +kernel
theorem dX6_newer_46 : decode cX6_newer 46 = .ok (.invokevirtual 219, 3) := by decide +kernel
theorem dX6_newer_49 : decode cX6_newer 49 = .ok (.iload_n 2, 1) := by decide +kernel
theorem dX6_newer_50 : decode cX6_newer 50 = .ok (.if_icmp .le 6, 3) := by decide +kernel
theorem dX6_newer_53 : decode cX6_newer 53 = .ok (.iinc 4 1, 3) := by decide +kernel
theorem dX6_newer_56 : decode cX6_newer 56 = .ok (.iinc 5 1, 3) := by decide +kernel
theorem dX6_newer_59 : decode cX6_newer 59 = .ok (.goto (-44), 3) := by decide +kernel
theorem dX6_newer_62 : decode cX6_newer 62 = .ok (.iload 4, 2) := by decide +kernel
theorem dX6_newer_64 : decode cX6_newer 64 = .ok (.ireturn, 1) := by decide +kernel
theorem dX6_birth_0 : decode cX6_birth 0 = .ok (.iload_n 1, 1) := by decide +kernel
theorem dX6_birth_1 : decode cX6_birth 1 = .ok (.invokestatic 222, 3) := by decide +kernel
theorem dX6_birth_4 : decode cX6_birth 4 = .ok (.aload_n 0, 1) := by decide +kernel
theorem dX6_birth_5 : decode cX6_birth 5 = .ok (.getfield 12, 3) := by decide +kernel
theorem dX6_birth_8 : decode cX6_birth 8 = .ok (.getfield 46, 3) := by decide +kernel
theorem dX6_birth_11 : decode cX6_birth 11 = .ok (.iload_n 1, 1) := by decide +kernel
theorem dX6_birth_12 : decode cX6_birth 12 = .ok (.invokevirtual 226, 3) := by decide +kernel
theorem dX6_birth_15 : decode cX6_birth 15 = .ok (.ifCond .ne 13, 3) := by decide +kernel
theorem dX6_birth_18 : decode cX6_birth 18 = .ok (.new 71, 3) := by decide +kernel
theorem dX6_birth_21 : decode cX6_birth 21 = .ok (.dup, 1) := by decide +kernel
theorem dX6_birth_22 : decode cX6_birth 22 = .ok (.ldc 229, 2) := by decide +kernel
theorem dX6_birth_24 : decode cX6_birth 24 = .ok (.invokespecial 75, 3) := by decide +kernel
theorem dX6_birth_27 : decode cX6_birth 27 = .ok (.athrow, 1) := by decide +kernel
theorem dX6_birth_28 : decode cX6_birth 28 = .ok (.aload_n 0, 1) := by decide +kernel
theorem dX6_birth_29 : decode cX6_birth 29 = .ok (.getfield 12, 3) := by decide +kernel
theorem dX6_birth_32 : decode cX6_birth 32 = .ok (.getfield 46, 3) := by decide +kernel
theorem dX6_birth_35 : decode cX6_birth 35 = .ok (.iload_n 1, 1) := by decide +kernel
theorem dX6_birth_36 : decode cX6_birth 36 = .ok (.invokevirtual 219, 3) := by decide +kernel
theorem dX6_birth_39 : decode cX6_birth 39 = .ok (.ireturn, 1) := by decide +kernel
theorem dX6_references_0 : decode cX6_references 0 = .ok (.iload_n 1, 1) := by decide +kernel
theorem dX6_references_1 : decode cX6_references 1 = .ok (.invokestatic 222, 3) := by decide +kernel
theorem dX6_references_4 : decode cX6_references 4 = .ok (.aload_n 0, 1) := by decide +kernel
theorem dX6_references_5 : decode cX6_references 5 = .ok (.getfield 12, 3) := by decide +kernel
theorem dX6_references_8 : decode cX6_references 8 = .ok (.getfield 46, 3) := by decide +kernel
theorem dX6_references_11 : decode cX6_references 11 = .ok (.iload_n 1, 1) := by decide +kernel
theorem dX6_references_12 : decode cX6_references 12 = .ok (.invokevirtual 60, 3) := by decide +kernel
theorem dX6_references_15 : decode cX6_references 15 = .ok (.ireturn, 1) := by decide +kernel
theorem dX6_free_0 : decode cX6_free 0 = .ok (.aload_n 0, 1) := by decide +kernel
theorem dX6_free_1 : decode cX6_free 1 = .ok (.getfield 12, 3) := by decide +kernel
theorem dX6_free_4 : decode cX6_free 4 = .ok (.getfield 46, 3) := by decide +kernel
theorem dX6_free_7 : decode cX6_free 7 = .ok (.iconst 0, 1) := by decide +kernel
theorem dX6_free_8 : decode cX6_free 8 = .ok (.iconst 0, 1) := by decide +kernel
theorem dX6_free_9 : decode cX6_free 9 = .ok (.sipush 128, 3) := by decide +kernel
theorem dX6_free_12 : decode cX6_free 12 = .ok (.invokevirtual 231, 3) := by decide +kernel
theorem dX6_free_15 : decode cX6_free 15 = .ok (.ireturn, 1) := by decide +kernel
theorem dX6_pending_0 : decode cX6_pending 0 = .ok (.aload_n 0, 1) := by decide +kernel
theorem dX6_pending_1 : decode cX6_pending 1 = .ok (.getfield 12, 3) := by decide +kernel
theorem dX6_pending_4 : decode cX6_pending 4 = .ok (.getfield 46, 3) := by decide +kernel
theorem dX6_pending_7 : decode cX6_pending 7 = .ok (.iconst 2, 1) := by decide +kernel
theorem dX6_pending_8 : decode cX6_pending 8 = .ok (.iconst 0, 1) := by decide +kernel
theorem dX6_pending_9 : decode cX6_pending 9 = .ok (.sipush 128, 3) := by decide +kernel
theorem dX6_pending_12 : decode cX6_pending 12 = .ok (.invokevirtual 231, 3) := by decide +kernel
theorem dX6_pending_15 : decode cX6_pending 15 = .ok (.ireturn, 1) := by decide +kernel
theorem dX6_freeIn_0 : decode cX6_freeIn 0 = .ok (.iload_n 1, 1) := by decide +kernel
theorem dX6_freeIn_1 : decode cX6_freeIn 1 = .ok (.invokestatic 235, 3) := by decide +kernel
theorem dX6_freeIn_4 : decode cX6_freeIn 4 = .ok (.aload_n 0, 1) := by decide +kernel
theorem dX6_freeIn_5 : decode cX6_freeIn 5 = .ok (.getfield 12, 3) := by decide +kernel
theorem dX6_freeIn_8 : decode cX6_freeIn 8 = .ok (.getfield 46, 3) := by decide +kernel
theorem dX6_freeIn_11 : decode cX6_freeIn 11 = .ok (.iload_n 1, 1) := by decide +kernel
theorem dX6_freeIn_12 : decode cX6_freeIn 12 = .ok (.invokevirtual 238, 3) := by decide +kernel
theorem dX6_freeIn_15 : decode cX6_freeIn 15 = .ok (.ireturn, 1) := by decide +kernel
theorem dX6_logEntries_0 : decode cX6_logEntries 0 = .ok (.aload_n 0, 1) := by decide +kernel
theorem dX6_logEntries_1 : decode cX6_logEntries 1 = .ok (.iload_n 1, 1) := by decide +kernel
theorem dX6_logEntries_2 : decode cX6_logEntries 2 = .ok (.invokevirtual 241, 3) := by decide +kernel
theorem dX6_logEntries_5 : decode cX6_logEntries 5 = .ok (.getfield 245, 3) := by decide +kernel
theorem dX6_logEntries_8 : decode cX6_logEntries 8 = .ok (.ireturn, 1) := by decide +kernel
theorem dX6_runAt_0 : decode cX6_runAt 0 = .ok (.aload_n 0, 1) := by decide +kernel
theorem dX6_runAt_1 : decode cX6_runAt 1 = .ok (.iload_n 1, 1) := by decide +kernel
theorem dX6_runAt_2 : decode cX6_runAt 2 = .ok (.iload_n 2, 1) := by decide +kernel
theorem dX6_runAt_3 : decode cX6_runAt 3 = .ok (.invokevirtual 250, 3) := by decide +kernel
theorem dX6_runAt_6 : decode cX6_runAt 6 = .ok (.astore_n 3, 1) := by decide +kernel
theorem dX6_runAt_7 : decode cX6_runAt 7 = .ok (.bipush 100, 2) := by decide +kernel
theorem dX6_runAt_9 : decode cX6_runAt 9 = .ok (.aload_n 3, 1) := by decide +kernel
theorem dX6_runAt_10 : decode cX6_runAt 10 = .ok (.iload_n 2, 1) := by decide +kernel
theorem dX6_runAt_11 : decode cX6_runAt 11 = .ok (.invokevirtual 254, 3) := by decide +kernel
theorem dX6_runAt_14 : decode cX6_runAt 14 = .ok (.imul, 1) := by decide +kernel
theorem dX6_runAt_15 : decode cX6_runAt 15 = .ok (.aload_n 3, 1) := by decide +kernel
theorem dX6_runAt_16 : decode cX6_runAt 16 = .ok (.iload_n 2, 1) := by decide +kernel
theorem dX6_runAt_17 : decode cX6_runAt 17 = .ok (.invokevirtual 257, 3) := by decide +kernel
theorem dX6_runAt_20 : decode cX6_runAt 20 = .ok (.iadd, 1) := by decide +kernel
theorem dX6_runAt_21 : decode cX6_runAt 21 = .ok (.ireturn, 1) := by decide +kernel
theorem dX6_allocates_0 : decode cX6_allocates 0 = .ok (.aload_n 0, 1) := by decide +kernel
theorem dX6_allocates_1 : decode cX6_allocates 1 = .ok (.iload_n 1, 1) := by decide +kernel
theorem dX6_allocates_2 : decode cX6_allocates 2 = .ok (.iload_n 2, 1) := by decide +kernel
theorem dX6_allocates_3 : decode cX6_allocates 3 = .ok (.invokevirtual 250, 3) := by decide +kernel
theorem dX6_allocates_6 : decode cX6_allocates 6 = .ok (.iload_n 2, 1) := by decide +kernel
theorem dX6_allocates_7 : decode cX6_allocates 7 = .ok (.invokevirtual 260, 3) := by decide +kernel
theorem dX6_allocates_10 : decode cX6_allocates 10 = .ok (.ireturn, 1) := by decide +kernel
theorem dX6_replay_0 : decode cX6_replay 0 = .ok (.aload_n 0, 1) := by decide +kernel
theorem dX6_replay_1 : decode cX6_replay 1 = .ok (.iload_n 1, 1) := by decide +kernel
theorem dX6_replay_2 : decode cX6_replay 2 = .ok (.invokevirtual 241, 3) := by decide +kernel
theorem dX6_replay_5 : decode cX6_replay 5 = .ok (.invokevirtual 263, 3) := by decide +kernel
theorem dX6_replay_8 : decode cX6_replay 8 = .ok (.ireturn, 1) := by decide +kernel
theorem dX6_condensed_0 : decode cX6_condensed 0 = .ok (.aload_n 0, 1) := by decide +kernel
theorem dX6_condensed_1 : decode cX6_condensed 1 = .ok (.getfield 12, 3) := by decide +kernel
theorem dX6_condensed_4 : decode cX6_condensed 4 = .ok (.getfield 266, 3) := by decide +kernel
theorem dX6_condensed_7 : decode cX6_condensed 7 = .ok (.ireturn, 1) := by decide +kernel
theorem dX6_datasetOrThrow_0 : decode cX6_datasetOrThrow 0 = .ok (.aload_n 0, 1) := by decide +kernel
theorem dX6_datasetOrThrow_1 : decode cX6_datasetOrThrow 1 = .ok (.getfield 12, 3) := by decide +kernel
theorem dX6_datasetOrThrow_4 : decode cX6_datasetOrThrow 4 = .ok (.iload_n 1, 1) := by decide +kernel
theorem dX6_datasetOrThrow_5 : decode cX6_datasetOrThrow 5 = .ok (.invokevirtual 193, 3) := by decide +kernel
theorem dX6_datasetOrThrow_8 : decode cX6_datasetOrThrow 8 = .ok (.astore_n 2, 1) := by decide +kernel
theorem dX6_datasetOrThrow_9 : decode cX6_datasetOrThrow 9 = .ok (.aload_n 2, 1) := by decide +kernel
theorem dX6_datasetOrThrow_10 : decode cX6_datasetOrThrow 10 = .ok (.ifnonnull 14, 3) := by decide +kernel
theorem dX6_datasetOrThrow_13 : decode cX6_datasetOrThrow 13 = .ok (.new 142, 3) := by decide +kernel
theorem dX6_datasetOrThrow_16 : decode cX6_datasetOrThrow 16 = .ok (.dup, 1) := by decide +kernel
theorem dX6_datasetOrThrow_17 : decode cX6_datasetOrThrow 17 = .ok (.ldc_w 269, 3) := by decide +kernel
theorem dX6_datasetOrThrow_20 : decode cX6_datasetOrThrow 20 = .ok (.invokespecial 146, 3) := by decide +kernel
theorem dX6_datasetOrThrow_23 : decode cX6_datasetOrThrow 23 = .ok (.athrow, 1) := by decide +kernel
theorem dX6_datasetOrThrow_24 : decode cX6_datasetOrThrow 24 = .ok (.aload_n 2, 1) := by decide +kernel
theorem dX6_datasetOrThrow_25 : decode cX6_datasetOrThrow 25 = .ok (.areturn, 1) := by decide +kernel
theorem dX6_snapshotOrThrow_0 : decode cX6_snapshotOrThrow 0 = .ok (.aload_n 0, 1) := by decide +kernel
theorem dX6_snapshotOrThrow_1 : decode cX6_snapshotOrThrow 1 = .ok (.getfield 12, 3) := by decide +kernel
theorem dX6_snapshotOrThrow_4 : decode cX6_snapshotOrThrow 4 = .ok (.iload_n 1, 1) := by decide +kernel
theorem dX6_snapshotOrThrow_5 : decode cX6_snapshotOrThrow 5 = .ok (.invokevirtual 188, 3) := by decide +kernel
theorem dX6_snapshotOrThrow_8 : decode cX6_snapshotOrThrow 8 = .ok (.astore_n 2, 1) := by decide +kernel
theorem dX6_snapshotOrThrow_9 : decode cX6_snapshotOrThrow 9 = .ok (.aload_n 2, 1) := by decide +kernel
theorem dX6_snapshotOrThrow_10 : decode cX6_snapshotOrThrow 10 = .ok (.ifnonnull 14, 3) := by decide +kernel
theorem dX6_snapshotOrThrow_13 : decode cX6_snapshotOrThrow 13 = .ok (.new 142, 3) := by decide +kernel
theorem dX6_snapshotOrThrow_16 : decode cX6_snapshotOrThrow 16 = .ok (.dup, 1) := by decide +kernel
theorem dX6_snapshotOrThrow_17 : decode cX6_snapshotOrThrow 17 = .ok (.ldc_w 271, 3) := by decide +kernel
theorem dX6_snapshotOrThrow_20 : decode cX6_snapshotOrThrow 20 = .ok (.invokespecial 146, 3) := by decide +kernel
theorem dX6_snapshotOrThrow_23 : decode cX6_snapshotOrThrow 23 = .ok (.athrow, 1) := by decide +kernel
theorem dX6_snapshotOrThrow_24 : decode cX6_snapshotOrThrow 24 = .ok (.aload_n 2, 1) := by decide +kernel
theorem dX6_snapshotOrThrow_25 : decode cX6_snapshotOrThrow 25 = .ok (.areturn, 1) := by decide +kernel
theorem dX6_placeOrThrow_0 : decode cX6_placeOrThrow 0 = .ok (.iload_n 0, 1) := by decide +kernel
theorem dX6_placeOrThrow_1 : decode cX6_placeOrThrow 1 = .ok (.ifCond .lt 9, 3) := by decide +kernel
theorem dX6_placeOrThrow_4 : decode cX6_placeOrThrow 4 = .ok (.iload_n 0, 1) := by decide +kernel
theorem dX6_placeOrThrow_5 : decode cX6_placeOrThrow 5 = .ok (.bipush 8, 2) := by decide +kernel
theorem dX6_placeOrThrow_7 : decode cX6_placeOrThrow 7 = .ok (.if_icmp .lt 14, 3) := by decide +kernel
theorem dX6_placeOrThrow_10 : decode cX6_placeOrThrow 10 = .ok (.new 142, 3) := by decide +kernel
theorem dX6_placeOrThrow_13 : decode cX6_placeOrThrow 13 = .ok (.dup, 1) := by decide +kernel
theorem dX6_placeOrThrow_14 : decode cX6_placeOrThrow 14 = .ok (.ldc_w 273, 3) := by decide +kernel
theorem dX6_placeOrThrow_17 : decode cX6_placeOrThrow 17 = .ok (.invokespecial 146, 3) := by decide +kernel
theorem dX6_placeOrThrow_20 : decode cX6_placeOrThrow 20 = .ok (.athrow, 1) := by decide +kernel
theorem dX6_placeOrThrow_21 : decode cX6_placeOrThrow 21 = .ok (.iload_n 1, 1) := by decide +kernel
theorem dX6_placeOrThrow_22 : decode cX6_placeOrThrow 22 = .ok (.ifCond .lt 9, 3) := by decide +kernel
theorem dX6_placeOrThrow_25 : decode cX6_placeOrThrow 25 = .ok (.iload_n 1, 1) := by decide +kernel
theorem dX6_placeOrThrow_26 : decode cX6_placeOrThrow 26 = .ok (.bipush 16, 2) := by decide +kernel
theorem dX6_placeOrThrow_28 : decode cX6_placeOrThrow 28 = .ok (.if_icmp .lt 14, 3) := by decide +kernel
theorem dX6_placeOrThrow_31 : decode cX6_placeOrThrow 31 = .ok (.new 142, 3) := by decide +kernel
theorem dX6_placeOrThrow_34 : decode cX6_placeOrThrow 34 = .ok (.dup, 1) := by decide +kernel
theorem dX6_placeOrThrow_35 : decode cX6_placeOrThrow 35 = .ok (.ldc_w 275, 3) := by decide +kernel
theorem dX6_placeOrThrow_38 : decode cX6_placeOrThrow 38 = .ok (.invokespecial 146, 3) := by decide +kernel
theorem dX6_placeOrThrow_41 : decode cX6_placeOrThrow 41 = .ok (.athrow, 1) := by decide +kernel
theorem dX6_placeOrThrow_42 : decode cX6_placeOrThrow 42 = .ok (.iload_n 0, 1) := by decide +kernel
theorem dX6_placeOrThrow_43 : decode cX6_placeOrThrow 43 = .ok (.bipush 16, 2) := by decide +kernel
theorem dX6_placeOrThrow_45 : decode cX6_placeOrThrow 45 = .ok (.imul, 1) := by decide +kernel
theorem dX6_placeOrThrow_46 : decode cX6_placeOrThrow 46 = .ok (.iload_n 1, 1) := by decide +kernel
theorem dX6_placeOrThrow_47 : decode cX6_placeOrThrow 47 = .ok (.iadd, 1) := by decide +kernel
theorem dX6_placeOrThrow_48 : decode cX6_placeOrThrow 48 = .ok (.ireturn, 1) := by decide +kernel
theorem dX6_blockOrThrow_0 : decode cX6_blockOrThrow 0 = .ok (.iload_n 0, 1) := by decide +kernel
theorem dX6_blockOrThrow_1 : decode cX6_blockOrThrow 1 = .ok (.ifCond .lt 10, 3) := by decide +kernel
theorem dX6_blockOrThrow_4 : decode cX6_blockOrThrow 4 = .ok (.iload_n 0, 1) := by decide +kernel
theorem dX6_blockOrThrow_5 : decode cX6_blockOrThrow 5 = .ok (.sipush 128, 3) := by decide +kernel
theorem dX6_blockOrThrow_8 : decode cX6_blockOrThrow 8 = .ok (.if_icmp .lt 14, 3) := by decide +kernel
theorem dX6_blockOrThrow_11 : decode cX6_blockOrThrow 11 = .ok (.new 142, 3) := by decide +kernel
theorem dX6_blockOrThrow_14 : decode cX6_blockOrThrow 14 = .ok (.dup, 1) := by decide +kernel
theorem dX6_blockOrThrow_15 : decode cX6_blockOrThrow 15 = .ok (.ldc_w 277, 3) := by decide +kernel
theorem dX6_blockOrThrow_18 : decode cX6_blockOrThrow 18 = .ok (.invokespecial 146, 3) := by decide +kernel
theorem dX6_blockOrThrow_21 : decode cX6_blockOrThrow 21 = .ok (.athrow, 1) := by decide +kernel
theorem dX6_blockOrThrow_22 : decode cX6_blockOrThrow 22 = .ok (.return_, 1) := by decide +kernel
theorem dX6_regionOrThrow_0 : decode cX6_regionOrThrow 0 = .ok (.iload_n 0, 1) := by decide +kernel
theorem dX6_regionOrThrow_1 : decode cX6_regionOrThrow 1 = .ok (.ifCond .lt 8, 3) := by decide +kernel
theorem dX6_regionOrThrow_4 : decode cX6_regionOrThrow 4 = .ok (.iload_n 0, 1) := by decide +kernel
theorem dX6_regionOrThrow_5 : decode cX6_regionOrThrow 5 = .ok (.iconst 4, 1) := by decide +kernel
theorem dX6_regionOrThrow_6 : decode cX6_regionOrThrow 6 = .ok (.if_icmp .lt 14, 3) := by decide +kernel
theorem dX6_regionOrThrow_9 : decode cX6_regionOrThrow 9 = .ok (.new 142, 3) := by decide +kernel
theorem dX6_regionOrThrow_12 : decode cX6_regionOrThrow 12 = .ok (.dup, 1) := by decide +kernel
theorem dX6_regionOrThrow_13 : decode cX6_regionOrThrow 13 = .ok (.ldc_w 279, 3) := by decide +kernel
theorem dX6_regionOrThrow_16 : decode cX6_regionOrThrow 16 = .ok (.invokespecial 146, 3) := by decide +kernel
theorem dX6_regionOrThrow_19 : decode cX6_regionOrThrow 19 = .ok (.athrow, 1) := by decide +kernel
theorem dX6_regionOrThrow_20 : decode cX6_regionOrThrow 20 = .ok (.return_, 1) := by decide +kernel
theorem dX6_logOrThrow_0 : decode cX6_logOrThrow 0 = .ok (.iload_n 1, 1) := by decide +kernel
theorem dX6_logOrThrow_1 : decode cX6_logOrThrow 1 = .ok (.ifCond .lt 15, 3) := by decide +kernel
theorem dX6_logOrThrow_4 : decode cX6_logOrThrow 4 = .ok (.iload_n 1, 1) := by decide +kernel
theorem dX6_logOrThrow_5 : decode cX6_logOrThrow 5 = .ok (.aload_n 0, 1) := by decide +kernel
theorem dX6_logOrThrow_6 : decode cX6_logOrThrow 6 = .ok (.getfield 12, 3) := by decide +kernel
theorem dX6_logOrThrow_9 : decode cX6_logOrThrow 9 = .ok (.getfield 281, 3) := by decide +kernel
theorem dX6_logOrThrow_12 : decode cX6_logOrThrow 12 = .ok (.arraylength, 1) := by decide +kernel
theorem dX6_logOrThrow_13 : decode cX6_logOrThrow 13 = .ok (.if_icmp .lt 14, 3) := by decide +kernel
theorem dX6_logOrThrow_16 : decode cX6_logOrThrow 16 = .ok (.new 142, 3) := by decide +kernel
theorem dX6_logOrThrow_19 : decode cX6_logOrThrow 19 = .ok (.dup, 1) := by decide +kernel
theorem dX6_logOrThrow_20 : decode cX6_logOrThrow 20 = .ok (.ldc_w 279, 3) := by decide +kernel
theorem dX6_logOrThrow_23 : decode cX6_logOrThrow 23 = .ok (.invokespecial 146, 3) := by decide +kernel
theorem dX6_logOrThrow_26 : decode cX6_logOrThrow 26 = .ok (.athrow, 1) := by decide +kernel
theorem dX6_logOrThrow_27 : decode cX6_logOrThrow 27 = .ok (.aload_n 0, 1) := by decide +kernel
theorem dX6_logOrThrow_28 : decode cX6_logOrThrow 28 = .ok (.getfield 12, 3) := by decide +kernel
theorem dX6_logOrThrow_31 : decode cX6_logOrThrow 31 = .ok (.getfield 281, 3) := by decide +kernel
theorem dX6_logOrThrow_34 : decode cX6_logOrThrow 34 = .ok (.iload_n 1, 1) := by decide +kernel
theorem dX6_logOrThrow_35 : decode cX6_logOrThrow 35 = .ok (.aaload, 1) := by decide +kernel
theorem dX6_logOrThrow_36 : decode cX6_logOrThrow 36 = .ok (.areturn, 1) := by decide +kernel
theorem dX6_logWithEntryOrThrow_0 : decode cX6_logWithEntryOrThrow 0 = .ok (.aload_n 0, 1) := by decide +kernel
theorem dX6_logWithEntryOrThrow_1 : decode cX6_logWithEntryOrThrow 1 = .ok (.iload_n 1, 1) := by decide +kernel
theorem dX6_logWithEntryOrThrow_2 : decode cX6_logWithEntryOrThrow 2 = .ok (.invokevirtual 241, 3) := by decide +kernel
theorem dX6_logWithEntryOrThrow_5 : decode cX6_logWithEntryOrThrow 5 = .ok (.astore_n 3, 1) := by decide +kernel
theorem dX6_logWithEntryOrThrow_6 : decode cX6_logWithEntryOrThrow 6 = .ok (.iload_n 2, 1) := by decide +kernel
theorem dX6_logWithEntryOrThrow_7 : decode cX6_logWithEntryOrThrow 7 = .ok (.ifCond .lt 11, 3) := by decide +kernel
theorem dX6_logWithEntryOrThrow_10 : decode cX6_logWithEntryOrThrow 10 = .ok (.iload_n 2, 1) := by decide +kernel
theorem dX6_logWithEntryOrThrow_11 : decode cX6_logWithEntryOrThrow 11 = .ok (.aload_n 3, 1) := by decide +kernel
theorem dX6_logWithEntryOrThrow_12 : decode cX6_logWithEntryOrThrow 12 = .ok (.getfield 245, 3) := by decide +kernel
theorem dX6_logWithEntryOrThrow_15 : decode cX6_logWithEntryOrThrow 15 = .ok (.if_icmp .lt 14, 3) := by decide +kernel
theorem dX6_logWithEntryOrThrow_18 : decode cX6_logWithEntryOrThrow 18 = .ok (.new 142, 3) := by decide +kernel
theorem dX6_logWithEntryOrThrow_21 : decode cX6_logWithEntryOrThrow 21 = .ok (.dup, 1) := by decide +kernel
theorem dX6_logWithEntryOrThrow_22 : decode cX6_logWithEntryOrThrow 22 = .ok (.ldc_w 285, 3) := by decide +kernel
theorem dX6_logWithEntryOrThrow_25 : decode cX6_logWithEntryOrThrow 25 = .ok (.invokespecial 146, 3) := by decide +kernel
theorem dX6_logWithEntryOrThrow_28 : decode cX6_logWithEntryOrThrow 28 = .ok (.athrow, 1) := by decide +kernel
theorem dX6_logWithEntryOrThrow_29 : decode cX6_logWithEntryOrThrow 29 = .ok (.aload_n 3, 1) := by decide +kernel
theorem dX6_logWithEntryOrThrow_30 : decode cX6_logWithEntryOrThrow 30 = .ok (.areturn, 1) := by decide +kernel
theorem dX6_fits_0 : decode cX6_fits 0 = .ok (.iload_n 1, 1) := by decide +kernel
theorem dX6_fits_1 : decode cX6_fits 1 = .ok (.iconst 1, 1) := by decide +kernel
theorem dX6_fits_2 : decode cX6_fits 2 = .ok (.if_icmp .lt 15, 3) := by decide +kernel
theorem dX6_fits_5 : decode cX6_fits 5 = .ok (.iload_n 1, 1) := by decide +kernel
theorem dX6_fits_6 : decode cX6_fits 6 = .ok (.bipush 16, 2) := by decide +kernel
theorem dX6_fits_8 : decode cX6_fits 8 = .ok (.iload_n 0, 1) := by decide +kernel
theorem dX6_fits_9 : decode cX6_fits 9 = .ok (.isub, 1) := by decide +kernel
theorem dX6_fits_10 : decode cX6_fits 10 = .ok (.if_icmp .gt 7, 3) := by decide +kernel
theorem dX6_fits_13 : decode cX6_fits 13 = .ok (.iconst 1, 1) := by decide +kernel
theorem dX6_fits_14 : decode cX6_fits 14 = .ok (.goto 4, 3) := by decide +kernel
theorem dX6_fits_17 : decode cX6_fits 17 = .ok (.iconst 0, 1) := by decide +kernel
theorem dX6_fits_18 : decode cX6_fits 18 = .ok (.ireturn, 1) := by decide +kernel
theorem dX6_take_0 : decode cX6_take 0 = .ok (.iconst 0, 1) := by decide +kernel
theorem dX6_take_1 : decode cX6_take 1 = .ok (.istore 4, 2) := by decide +kernel
theorem dX6_take_3 : decode cX6_take 3 = .ok (.iload 4, 2) := by decide +kernel
theorem dX6_take_5 : decode cX6_take 5 = .ok (.iload_n 3, 1) := by decide +kernel
theorem dX6_take_6 : decode cX6_take 6 = .ok (.if_icmp .ge 34, 3) := by decide +kernel
theorem dX6_take_9 : decode cX6_take 9 = .ok (.iload 4, 2) := by decide +kernel
theorem dX6_take_11 : decode cX6_take 11 = .ok (.aload_n 0, 1) := by decide +kernel
theorem dX6_take_12 : decode cX6_take 12 = .ok (.getfield 19, 3) := by decide +kernel
theorem dX6_take_15 : decode cX6_take 15 = .ok (.arraylength, 1) := by decide +kernel
theorem dX6_take_16 : decode cX6_take 16 = .ok (.if_icmp .ge 24, 3) := by decide +kernel
theorem dX6_take_19 : decode cX6_take 19 = .ok (.aload_n 0, 1) := by decide +kernel
theorem dX6_take_20 : decode cX6_take 20 = .ok (.getfield 19, 3) := by decide +kernel
theorem dX6_take_23 : decode cX6_take 23 = .ok (.iload 4, 2) := by decide +kernel
theorem dX6_take_25 : decode cX6_take 25 = .ok (.aload_n 1, 1) := by decide +kernel
theorem dX6_take_26 : decode cX6_take 26 = .ok (.iload_n 2, 1) := by decide +kernel
theorem dX6_take_27 : decode cX6_take 27 = .ok (.iload 4, 2) := by decide +kernel
theorem dX6_take_29 : decode cX6_take 29 = .ok (.iadd, 1) := by decide +kernel
theorem dX6_take_30 : decode cX6_take 30 = .ok (.invokevirtual 40, 3) := by decide +kernel
theorem dX6_take_33 : decode cX6_take 33 = .ok (.iastore, 1) := by decide +kernel
theorem dX6_take_34 : decode cX6_take 34 = .ok (.iinc 4 1, 3) := by decide +kernel
theorem dX6_take_37 : decode cX6_take 37 = .ok (.goto (-34), 3) := by decide +kernel
theorem dX6_take_40 : decode cX6_take 40 = .ok (.return_, 1) := by decide +kernel
theorem dX6_closeTransaction_0 : decode cX6_closeTransaction 0 = .ok (.aload_n 0, 1) := by decide +kernel
theorem dX6_closeTransaction_1 : decode cX6_closeTransaction 1 = .ok (.getfield 12, 3) := by decide +kernel
theorem dX6_closeTransaction_4 : decode cX6_closeTransaction 4 = .ok (.getfield 50, 3) := by decide +kernel
theorem dX6_closeTransaction_7 : decode cX6_closeTransaction 7 = .ok (.istore_n 1, 1) := by decide +kernel
theorem dX6_closeTransaction_8 : decode cX6_closeTransaction 8 = .ok (.aload_n 0, 1) := by decide +kernel
theorem dX6_closeTransaction_9 : decode cX6_closeTransaction 9 = .ok (.getfield 12, 3) := by decide +kernel
theorem dX6_closeTransaction_12 : decode cX6_closeTransaction 12 = .ok (.getfield 46, 3) := by decide +kernel
theorem dX6_closeTransaction_15 : decode cX6_closeTransaction 15 = .ok (.invokevirtual 287, 3) := by decide +kernel
theorem dX6_closeTransaction_18 : decode cX6_closeTransaction 18 = .ok (.iconst 0, 1) := by decide +kernel
theorem dX6_closeTransaction_19 : decode cX6_closeTransaction 19 = .ok (.istore_n 2, 1) := by decide +kernel
theorem dX6_closeTransaction_20 : decode cX6_closeTransaction 20 = .ok (.iload_n 2, 1) := by decide +kernel
theorem dX6_closeTransaction_21 : decode cX6_closeTransaction 21 = .ok (.aload_n 0, 1) := by decide +kernel
theorem dX6_closeTransaction_22 : decode cX6_closeTransaction 22 = .ok (.getfield 12, 3) := by decide +kernel
theorem dX6_closeTransaction_25 : decode cX6_closeTransaction 25 = .ok (.getfield 281, 3) := by decide +kernel
theorem dX6_closeTransaction_28 : decode cX6_closeTransaction 28 = .ok (.arraylength, 1) := by decide +kernel
theorem dX6_closeTransaction_29 : decode cX6_closeTransaction 29 = .ok (.if_icmp .ge 51, 3) := by decide +kernel
theorem dX6_closeTransaction_32 : decode cX6_closeTransaction 32 = .ok (.aload_n 0, 1) := by decide +kernel
theorem dX6_closeTransaction_33 : decode cX6_closeTransaction 33 = .ok (.getfield 12, 3) := by decide +kernel
theorem dX6_closeTransaction_36 : decode cX6_closeTransaction 36 = .ok (.getfield 281, 3) := by decide +kernel
theorem dX6_closeTransaction_39 : decode cX6_closeTransaction 39 = .ok (.iload_n 2, 1) := by decide +kernel
theorem dX6_closeTransaction_40 : decode cX6_closeTransaction 40 = .ok (.aaload, 1) := by decide +kernel
theorem dX6_closeTransaction_41 : decode cX6_closeTransaction 41 = .ok (.aload_n 0, 1) := by decide +kernel
theorem dX6_closeTransaction_42 : decode cX6_closeTransaction 42 = .ok (.getfield 12, 3) := by decide +kernel
theorem dX6_closeTransaction_45 : decode cX6_closeTransaction 45 = .ok (.getfield 46, 3) := by decide +kernel
theorem dX6_closeTransaction_48 : decode cX6_closeTransaction 48 = .ok (.aload_n 0, 1) := by decide +kernel
theorem dX6_closeTransaction_49 : decode cX6_closeTransaction 49 = .ok (.getfield 16, 3) := by decide +kernel
theorem dX6_closeTransaction_52 : decode cX6_closeTransaction 52 = .ok (.getfield 46, 3) := by decide +kernel
theorem dX6_closeTransaction_55 : decode cX6_closeTransaction 55 = .ok (.invokevirtual 290, 3) := by decide +kernel
theorem dX6_closeTransaction_58 : decode cX6_closeTransaction 58 = .ok (.ifCond .eq 16, 3) := by decide +kernel
theorem dX6_closeTransaction_61 : decode cX6_closeTransaction 61 = .ok (.aload_n 0, 1) := by decide +kernel
theorem dX6_closeTransaction_62 : decode cX6_closeTransaction 62 = .ok (.getfield 12, 3) := by decide +kernel
theorem dX6_closeTransaction_65 : decode cX6_closeTransaction 65 = .ok (.dup, 1) := by decide +kernel
theorem dX6_closeTransaction_66 : decode cX6_closeTransaction 66 = .ok (.getfield 266, 3) := by decide +kernel
theorem dX6_closeTransaction_69 : decode cX6_closeTransaction 69 = .ok (.iconst 1, 1) := by decide +kernel
theorem dX6_closeTransaction_70 : decode cX6_closeTransaction 70 = .ok (.iadd, 1) := by decide +kernel
theorem dX6_closeTransaction_71 : decode cX6_closeTransaction 71 = .ok (.putfield 266, 3) := by decide +kernel
theorem dX6_closeTransaction_74 : decode cX6_closeTransaction 74 = .ok (.iinc 2 1, 3) := by decide +kernel
theorem dX6_closeTransaction_77 : decode cX6_closeTransaction 77 = .ok (.goto (-57), 3) := by decide +kernel
theorem dX6_closeTransaction_80 : decode cX6_closeTransaction 80 = .ok (.aload_n 0, 1) := by decide +kernel
theorem dX6_closeTransaction_81 : decode cX6_closeTransaction 81 = .ok (.getfield 12, 3) := by decide +kernel
theorem dX6_closeTransaction_84 : decode cX6_closeTransaction 84 = .ok (.iload_n 1, 1) := by decide +kernel
theorem dX6_closeTransaction_85 : decode cX6_closeTransaction 85 = .ok (.iconst 1, 1) := by decide +kernel
theorem dX6_closeTransaction_86 : decode cX6_closeTransaction 86 = .ok (.iadd, 1) := by decide +kernel
theorem dX6_closeTransaction_87 : decode cX6_closeTransaction 87 = .ok (.putfield 50, 3) := by decide +kernel
theorem dX6_closeTransaction_90 : decode cX6_closeTransaction 90 = .ok (.aload_n 0, 1) := by decide +kernel
theorem dX6_closeTransaction_91 : decode cX6_closeTransaction 91 = .ok (.getfield 16, 3) := by decide +kernel
theorem dX6_closeTransaction_94 : decode cX6_closeTransaction 94 = .ok (.aload_n 0, 1) := by decide +kernel
theorem dX6_closeTransaction_95 : decode cX6_closeTransaction 95 = .ok (.getfield 12, 3) := by decide +kernel
theorem dX6_closeTransaction_98 : decode cX6_closeTransaction 98 = .ok (.invokevirtual 108, 3) := by decide +kernel
theorem dX6_closeTransaction_101 : decode cX6_closeTransaction 101 = .ok (.iload_n 1, 1) := by decide +kernel
theorem dX6_closeTransaction_102 : decode cX6_closeTransaction 102 = .ok (.ireturn, 1) := by decide +kernel
theorem dX6_countUses_0 : decode cX6_countUses 0 = .ok (.aload_n 0, 1) := by decide +kernel
theorem dX6_countUses_1 : decode cX6_countUses 1 = .ok (.getfield 23, 3) := by decide +kernel
theorem dX6_countUses_4 : decode cX6_countUses 4 = .ok (.iconst 0, 1) := by decide +kernel
theorem dX6_countUses_5 : decode cX6_countUses 5 = .ok (.invokestatic 294, 3) := by decide +kernel
theorem dX6_countUses_8 : decode cX6_countUses 8 = .ok (.iconst 0, 1) := by decide +kernel
theorem dX6_countUses_9 : decode cX6_countUses 9 = .ok (.istore_n 2, 1) := by decide +kernel
theorem dX6_countUses_10 : decode cX6_countUses 10 = .ok (.iload_n 2, 1) := by decide +kernel
theorem dX6_countUses_11 : decode cX6_countUses 11 = .ok (.sipush 128, 3) := by decide +kernel
theorem dX6_countUses_14 : decode cX6_countUses 14 = .ok (.if_icmp .ge 38, 3) := by decide +kernel
theorem dX6_countUses_17 : decode cX6_countUses 17 = .ok (.aload_n 1, 1) := by decide +kernel
theorem dX6_countUses_18 : decode cX6_countUses 18 = .ok (.iload_n 2, 1) := by decide +kernel
theorem dX6_countUses_19 : decode cX6_countUses 19 = .ok (.invokevirtual 40, 3) := by decide +kernel
theorem dX6_countUses_22 : decode cX6_countUses 22 = .ok (.istore_n 3, 1) := by decide +kernel
theorem dX6_countUses_23 : decode cX6_countUses 23 = .ok (.iload_n 3, 1) := by decide +kernel
theorem dX6_countUses_24 : decode cX6_countUses 24 = .ok (.ifCond .lt 22, 3) := by decide +kernel
theorem dX6_countUses_27 : decode cX6_countUses 27 = .ok (.iload_n 3, 1) := by decide +kernel
theorem dX6_countUses_28 : decode cX6_countUses 28 = .ok (.aload_n 0, 1) := by decide +kernel
theorem dX6_countUses_29 : decode cX6_countUses 29 = .ok (.getfield 23, 3) := by decide +kernel
theorem dX6_countUses_32 : decode cX6_countUses 32 = .ok (.arraylength, 1) := by decide +kernel
theorem dX6_countUses_33 : decode cX6_countUses 33 = .ok (.if_icmp .ge 13, 3) := by decide +kernel
theorem dX6_countUses_36 : decode cX6_countUses 36 = .ok (.aload_n 0, 1) := by decide +kernel
theorem dX6_countUses_37 : decode cX6_countUses 37 = .ok (.getfield 23, 3) := by decide +kernel
theorem dX6_countUses_40 : decode cX6_countUses 40 = .ok (.iload_n 3, 1) := by decide +kernel
theorem dX6_countUses_41 : decode cX6_countUses 41 = .ok (.dup2, 1) := by decide +kernel
theorem dX6_countUses_42 : decode cX6_countUses 42 = .ok (.iaload, 1) := by decide +kernel
theorem dX6_countUses_43 : decode cX6_countUses 43 = .ok (.iconst 1, 1) := by decide +kernel
theorem dX6_countUses_44 : decode cX6_countUses 44 = .ok (.iadd, 1) := by decide +kernel
theorem dX6_countUses_45 : decode cX6_countUses 45 = .ok (.iastore, 1) := by decide +kernel
theorem dX6_countUses_46 : decode cX6_countUses 46 = .ok (.iinc 2 1, 3) := by decide +kernel
theorem dX6_countUses_49 : decode cX6_countUses 49 = .ok (.goto (-39), 3) := by decide +kernel
theorem dX6_countUses_52 : decode cX6_countUses 52 = .ok (.return_, 1) := by decide +kernel
theorem dX6_countOwn_0 : decode cX6_countOwn 0 = .ok (.aload_n 0, 1) := by decide +kernel
theorem dX6_countOwn_1 : decode cX6_countOwn 1 = .ok (.aload_n 1, 1) := by decide +kernel
theorem dX6_countOwn_2 : decode cX6_countOwn 2 = .ok (.invokevirtual 212, 3) := by decide +kernel
theorem dX6_countOwn_5 : decode cX6_countOwn 5 = .ok (.iconst 0, 1) := by decide +kernel
theorem dX6_countOwn_6 : decode cX6_countOwn 6 = .ok (.istore_n 2, 1) := by decide +kernel
theorem dX6_countOwn_7 : decode cX6_countOwn 7 = .ok (.iconst 0, 1) := by decide +kernel
theorem dX6_countOwn_8 : decode cX6_countOwn 8 = .ok (.istore_n 3, 1) := by decide +kernel
theorem dX6_countOwn_9 : decode cX6_countOwn 9 = .ok (.iload_n 3, 1) := by decide +kernel
theorem dX6_countOwn_10 : decode cX6_countOwn 10 = .ok (.aload_n 0, 1) := by decide +kernel
theorem dX6_countOwn_11 : decode cX6_countOwn 11 = .ok (.getfield 23, 3) := by decide +kernel
theorem dX6_countOwn_14 : decode cX6_countOwn 14 = .ok (.arraylength, 1) := by decide +kernel
theorem dX6_countOwn_15 : decode cX6_countOwn 15 = .ok (.if_icmp .ge 41, 3) := by decide +kernel
theorem dX6_countOwn_18 : decode cX6_countOwn 18 = .ok (.aload_n 0, 1) := by decide +kernel
theorem dX6_countOwn_19 : decode cX6_countOwn 19 = .ok (.getfield 23, 3) := by decide +kernel
theorem dX6_countOwn_22 : decode cX6_countOwn 22 = .ok (.iload_n 3, 1) := by decide +kernel
theorem dX6_countOwn_23 : decode cX6_countOwn 23 = .ok (.iaload, 1) := by decide +kernel
theorem dX6_countOwn_24 : decode cX6_countOwn 24 = .ok (.ifCond .le 26, 3) := by decide +kernel
theorem dX6_countOwn_27 : decode cX6_countOwn 27 = .ok (.aload_n 0, 1) := by decide +kernel
theorem dX6_countOwn_28 : decode cX6_countOwn 28 = .ok (.getfield 23, 3) := by decide +kernel
theorem dX6_countOwn_31 : decode cX6_countOwn 31 = .ok (.iload_n 3, 1) := by decide +kernel
theorem dX6_countOwn_32 : decode cX6_countOwn 32 = .ok (.iaload, 1) := by decide +kernel
theorem dX6_countOwn_33 : decode cX6_countOwn 33 = .ok (.aload_n 0, 1) := by decide +kernel
theorem dX6_countOwn_34 : decode cX6_countOwn 34 = .ok (.getfield 12, 3) := by decide +kernel
theorem dX6_countOwn_37 : decode cX6_countOwn 37 = .ok (.getfield 46, 3) := by decide +kernel
theorem dX6_countOwn_40 : decode cX6_countOwn 40 = .ok (.iload_n 3, 1) := by decide +kernel
theorem dX6_countOwn_41 : decode cX6_countOwn 41 = .ok (.invokevirtual 60, 3) := by decide +kernel
theorem dX6_countOwn_44 : decode cX6_countOwn 44 = .ok (.if_icmp .ne 6, 3) := by decide +kernel
theorem dX6_countOwn_47 : decode cX6_countOwn 47 = .ok (.iinc 2 1, 3) := by decide +kernel
theorem dX6_countOwn_50 : decode cX6_countOwn 50 = .ok (.iinc 3 1, 3) := by decide +kernel
theorem dX6_countOwn_53 : decode cX6_countOwn 53 = .ok (.goto (-44), 3) := by decide +kernel
theorem dX6_countOwn_56 : decode cX6_countOwn 56 = .ok (.iload_n 2, 1) := by decide +kernel
theorem dX6_countOwn_57 : decode cX6_countOwn 57 = .ok (.ireturn, 1) := by decide +kernel
theorem dX7_init_0 : decode cX7_init 0 = .ok (.aload_n 0, 1) := by decide +kernel
theorem dX7_init_1 : decode cX7_init 1 = .ok (.invokespecial 1, 3) := by decide +kernel
theorem dX7_init_4 : decode cX7_init 4 = .ok (.aload_n 0, 1) := by decide +kernel
theorem dX7_init_5 : decode cX7_init 5 = .ok (.sipush 3397, 3) := by decide +kernel
theorem dX7_init_8 : decode cX7_init 8 = .ok (.newarray .int, 2) := by decide +kernel
theorem dX7_init_10 : decode cX7_init 10 = .ok (.putfield 7, 3) := by decide +kernel
theorem dX7_init_13 : decode cX7_init 13 = .ok (.aload_n 0, 1) := by decide +kernel
theorem dX7_init_14 : decode cX7_init 14 = .ok (.sipush 3397, 3) := by decide +kernel
theorem dX7_init_17 : decode cX7_init 17 = .ok (.newarray .int, 2) := by decide +kernel
theorem dX7_init_19 : decode cX7_init 19 = .ok (.putfield 13, 3) := by decide +kernel
theorem dX7_init_22 : decode cX7_init 22 = .ok (.aload_n 0, 1) := by decide +kernel
theorem dX7_init_23 : decode cX7_init 23 = .ok (.sipush 128, 3) := by decide +kernel
theorem dX7_init_26 : decode cX7_init 26 = .ok (.newarray .int, 2) := by decide +kernel
theorem dX7_init_28 : decode cX7_init 28 = .ok (.putfield 16, 3) := by decide +kernel
theorem dX7_init_31 : decode cX7_init 31 = .ok (.aload_n 0, 1) := by decide +kernel
theorem dX7_init_32 : decode cX7_init 32 = .ok (.bipush 16, 2) := by decide +kernel
theorem dX7_init_34 : decode cX7_init 34 = .ok (.newarray .int, 2) := by decide +kernel
theorem dX7_init_36 : decode cX7_init 36 = .ok (.putfield 19, 3) := by decide +kernel
theorem dX7_init_39 : decode cX7_init 39 = .ok (.aload_n 0, 1) := by decide +kernel
theorem dX7_init_40 : decode cX7_init 40 = .ok (.getfield 7, 3) := by decide +kernel
theorem dX7_init_43 : decode cX7_init 43 = .ok (.sipush 2304, 3) := by decide +kernel
theorem dX7_init_46 : decode cX7_init 46 = .ok (.iconst 1, 1) := by decide +kernel
theorem dX7_init_47 : decode cX7_init 47 = .ok (.iastore, 1) := by decide +kernel
theorem dX7_init_48 : decode cX7_init 48 = .ok (.aload_n 0, 1) := by decide +kernel
theorem dX7_init_49 : decode cX7_init 49 = .ok (.getfield 7, 3) := by decide +kernel
theorem dX7_init_52 : decode cX7_init 52 = .ok (.sipush 3395, 3) := by decide +kernel
theorem dX7_init_55 : decode cX7_init 55 = .ok (.iconst 1, 1) := by decide +kernel
theorem dX7_init_56 : decode cX7_init 56 = .ok (.iastore, 1) := by decide +kernel
theorem dX7_init_57 : decode cX7_init 57 = .ok (.iconst 0, 1) := by decide +kernel
theorem dX7_init_58 : decode cX7_init 58 = .ok (.istore_n 1, 1) := by decide +kernel
theorem dX7_init_59 : decode cX7_init 59 = .ok (.iload_n 1, 1) := by decide +kernel
theorem dX7_init_60 : decode cX7_init 60 = .ok (.sipush 3397, 3) := by decide +kernel
theorem dX7_init_63 : decode cX7_init 63 = .ok (.if_icmp .ge 21, 3) := by decide +kernel
theorem dX7_init_66 : decode cX7_init 66 = .ok (.aload_n 0, 1) := by decide +kernel
theorem dX7_init_67 : decode cX7_init 67 = .ok (.getfield 13, 3) := by decide +kernel
theorem dX7_init_70 : decode cX7_init 70 = .ok (.iload_n 1, 1) := by decide +kernel
theorem dX7_init_71 : decode cX7_init 71 = .ok (.aload_n 0, 1) := by decide +kernel
theorem dX7_init_72 : decode cX7_init 72 = .ok (.getfield 7, 3) := by decide +kernel
theorem dX7_init_75 : decode cX7_init 75 = .ok (.iload_n 1, 1) := by decide +kernel
theorem dX7_init_76 : decode cX7_init 76 = .ok (.iaload, 1) := by decide +kernel
theorem dX7_init_77 : decode cX7_init 77 = .ok (.iastore, 1) := by decide +kernel
theorem dX7_init_78 : decode cX7_init 78 = .ok (.iinc 1 1, 3) := by decide +kernel
theorem dX7_init_81 : decode cX7_init 81 = .ok (.goto (-22), 3) := by decide +kernel
theorem dX7_init_84 : decode cX7_init 84 = .ok (.return_, 1) := by decide +kernel
theorem dX7_thrown_0 : decode cX7_thrown 0 = .ok (.aload_n 0, 1) := by decide +kernel
theorem dX7_thrown_1 : decode cX7_thrown 1 = .ok (.getfield 22, 3) := by decide +kernel
theorem dX7_thrown_4 : decode cX7_thrown 4 = .ok (.ireturn, 1) := by decide +kernel
theorem dX7_in_0 : decode cX7_in 0 = .ok (.iload_n 0, 1) := by decide +kernel
theorem dX7_in_1 : decode cX7_in 1 = .ok (.iload_n 1, 1) := by decide +kernel
theorem dX7_in_2 : decode cX7_in 2 = .ok (.if_icmp .lt 12, 3) := by decide +kernel
theorem dX7_in_5 : decode cX7_in 5 = .ok (.iload_n 0, 1) := by decide +kernel
theorem dX7_in_6 : decode cX7_in 6 = .ok (.iload_n 2, 1) := by decide +kernel
theorem dX7_in_7 : decode cX7_in 7 = .ok (.if_icmp .gt 7, 3) := by decide +kernel
theorem dX7_in_10 : decode cX7_in 10 = .ok (.iconst 1, 1) := by decide +kernel
theorem dX7_in_11 : decode cX7_in 11 = .ok (.goto 4, 3) := by decide +kernel
theorem dX7_in_14 : decode cX7_in 14 = .ok (.iconst 0, 1) := by decide +kernel
theorem dX7_in_15 : decode cX7_in 15 = .ok (.ireturn, 1) := by decide +kernel
theorem dX7_isSet_0 : decode cX7_isSet 0 = .ok (.iload_n 1, 1) := by decide +kernel
theorem dX7_isSet_1 : decode cX7_isSet 1 = .ok (.iconst 0, 1) := by decide +kernel
theorem dX7_isSet_2 : decode cX7_isSet 2 = .ok (.iconst 5, 1) := by decide +kernel
theorem dX7_isSet_3 : decode cX7_isSet 3 = .ok (.invokestatic 26, 3) := by decide +kernel
theorem dX7_isSet_6 : decode cX7_isSet 6 = .ok (.ifCond .eq 21, 3) := by decide +kernel
theorem dX7_isSet_9 : decode cX7_isSet 9 = .ok (.aload_n 0, 1) := by decide +kernel
theorem dX7_isSet_10 : decode cX7_isSet 10 = .ok (.getfield 7, 3) := by decide +kernel
theorem dX7_isSet_13 : decode cX7_isSet 13 = .ok (.sipush 2304, 3) := by decide +kernel
theorem dX7_isSet_16 : decode cX7_isSet 16 = .ok (.iload_n 1, 1) := by decide +kernel
theorem dX7_isSet_17 : decode cX7_isSet 17 = .ok (.iadd, 1) := by decide +kernel
theorem dX7_isSet_18 : decode cX7_isSet 18 = .ok (.iaload, 1) := by decide +kernel
theorem dX7_isSet_19 : decode cX7_isSet 19 = .ok (.iconst 1, 1) := by decide +kernel
theorem dX7_isSet_20 : decode cX7_isSet 20 = .ok (.if_icmp .ne 7, 3) := by decide +kernel
theorem dX7_isSet_23 : decode cX7_isSet 23 = .ok (.iconst 1, 1) := by decide +kernel
theorem dX7_isSet_24 : decode cX7_isSet 24 = .ok (.goto 4, 3) := by decide +kernel
theorem dX7_isSet_27 : decode cX7_isSet 27 = .ok (.iconst 0, 1) := by decide +kernel
theorem dX7_isSet_28 : decode cX7_isSet 28 = .ok (.ireturn, 1) := by decide +kernel
theorem dX7_isFile_0 : decode cX7_isFile 0 = .ok (.iload_n 0, 1) := by decide +kernel
theorem dX7_isFile_1 : decode cX7_isFile 1 = .ok (.iconst 0, 1) := by decide +kernel
theorem dX7_isFile_2 : decode cX7_isFile 2 = .ok (.bipush 7, 2) := by decide +kernel
theorem dX7_isFile_4 : decode cX7_isFile 4 = .ok (.invokestatic 26, 3) := by decide +kernel
theorem dX7_isFile_7 : decode cX7_isFile 7 = .ok (.ireturn, 1) := by decide +kernel
theorem dX7_isSpot_0 : decode cX7_isSpot 0 = .ok (.iload_n 0, 1) := by decide +kernel
theorem dX7_isSpot_1 : decode cX7_isSpot 1 = .ok (.invokestatic 30, 3) := by decide +kernel
theorem dX7_isSpot_4 : decode cX7_isSpot 4 = .ok (.ifCond .eq 17, 3) := by decide +kernel
theorem dX7_isSpot_7 : decode cX7_isSpot 7 = .ok (.iload_n 1, 1) := by decide +kernel
theorem dX7_isSpot_8 : decode cX7_isSpot 8 = .ok (.iconst 0, 1) := by decide +kernel
theorem dX7_isSpot_9 : decode cX7_isSpot 9 = .ok (.bipush 15, 2) := by decide +kernel
theorem dX7_isSpot_11 : decode cX7_isSpot 11 = .ok (.invokestatic 26, 3) := by decide +kernel
theorem dX7_isSpot_14 : decode cX7_isSpot 14 = .ok (.ifCond .eq 7, 3) := by decide +kernel
theorem dX7_isSpot_17 : decode cX7_isSpot 17 = .ok (.iconst 1, 1) := by decide +kernel
theorem dX7_isSpot_18 : decode cX7_isSpot 18 = .ok (.goto 4, 3) := by decide +kernel
theorem dX7_isSpot_21 : decode cX7_isSpot 21 = .ok (.iconst 0, 1) := by decide +kernel
theorem dX7_isSpot_22 : decode cX7_isSpot 22 = .ok (.ireturn, 1) := by decide +kernel
theorem dX7_slotOf_0 : decode cX7_slotOf 0 = .ok (.iconst (-1), 1) := by decide +kernel
theorem dX7_slotOf_1 : decode cX7_slotOf 1 = .ok (.istore_n 2, 1) := by decide +kernel
theorem dX7_slotOf_2 : decode cX7_slotOf 2 = .ok (.iconst 0, 1) := by decide +kernel
theorem dX7_slotOf_3 : decode cX7_slotOf 3 = .ok (.istore_n 3, 1) := by decide +kernel
theorem dX7_slotOf_4 : decode cX7_slotOf 4 = .ok (.iload_n 3, 1) := by decide +kernel
theorem dX7_slotOf_5 : decode cX7_slotOf 5 = .ok (.bipush 12, 2) := by decide +kernel
theorem dX7_slotOf_7 : decode cX7_slotOf 7 = .ok (.if_icmp .ge 35, 3) := by decide +kernel
theorem dX7_slotOf_10 : decode cX7_slotOf 10 = .ok (.iload_n 1, 1) := by decide +kernel
theorem dX7_slotOf_11 : decode cX7_slotOf 11 = .ok (.ifCond .lt 23, 3) := by decide +kernel
theorem dX7_slotOf_14 : decode cX7_slotOf 14 = .ok (.aload_n 0, 1) := by decide +kernel
theorem dX7_slotOf_15 : decode cX7_slotOf 15 = .ok (.getfield 7, 3) := by decide +kernel
theorem dX7_slotOf_18 : decode cX7_slotOf 18 = .ok (.sipush 2394, 3) := by decide +kernel
theorem dX7_slotOf_21 : decode cX7_slotOf 21 = .ok (.iload_n 3, 1) := by decide +kernel
theorem dX7_slotOf_22 : decode cX7_slotOf 22 = .ok (.iadd, 1) := by decide +kernel
theorem dX7_slotOf_23 : decode cX7_slotOf 23 = .ok (.iaload, 1) := by decide +kernel
theorem dX7_slotOf_24 : decode cX7_slotOf 24 = .ok (.iload_n 1, 1) := by decide +kernel
theorem dX7_slotOf_25 : decode cX7_slotOf 25 = .ok (.iconst 1, 1) := by decide +kernel
theorem dX7_slotOf_26 : decode cX7_slotOf 26 = .ok (.iadd, 1) := by decide +kernel
theorem dX7_slotOf_27 : decode cX7_slotOf 27 = .ok (.if_icmp .ne 7, 3) := by decide +kernel
theorem dX7_slotOf_30 : decode cX7_slotOf 30 = .ok (.iload_n 3, 1) := by decide +kernel
theorem dX7_slotOf_31 : decode cX7_slotOf 31 = .ok (.goto 4, 3) := by decide +kernel
theorem dX7_slotOf_34 : decode cX7_slotOf 34 = .ok (.iload_n 2, 1) := by decide +kernel
theorem dX7_slotOf_35 : decode cX7_slotOf 35 = .ok (.istore_n 2, 1) := by decide +kernel
theorem dX7_slotOf_36 : decode cX7_slotOf 36 = .ok (.iinc 3 1, 3) := by decide +kernel
theorem dX7_slotOf_39 : decode cX7_slotOf 39 = .ok (.goto (-35), 3) := by decide +kernel
theorem dX7_slotOf_42 : decode cX7_slotOf 42 = .ok (.iload_n 2, 1) := by decide +kernel
theorem dX7_slotOf_43 : decode cX7_slotOf 43 = .ok (.ireturn, 1) := by decide +kernel
theorem dX7_spot_0 : decode cX7_spot 0 = .ok (.iconst 0, 1) := by decide +kernel
theorem dX7_spot_1 : decode cX7_spot 1 = .ok (.sipush 128, 3) := by decide +kernel
theorem dX7_spot_4 : decode cX7_spot 4 = .ok (.iload_n 0, 1) := by decide +kernel
theorem dX7_spot_5 : decode cX7_spot 5 = .ok (.imul, 1) := by decide +kernel
theorem dX7_spot_6 : decode cX7_spot 6 = .ok (.iadd, 1) := by decide +kernel
theorem dX7_spot_7 : decode cX7_spot 7 = .ok (.bipush 16, 2) := by decide +kernel
theorem dX7_spot_9 : decode cX7_spot 9 = .ok (.iload_n 1, 1) := by decide +kernel
theorem dX7_spot_10 : decode cX7_spot 10 = .ok (.imul, 1) := by decide +kernel
theorem dX7_spot_11 : decode cX7_spot 11 = .ok (.iadd, 1) := by decide +kernel
theorem dX7_spot_12 : decode cX7_spot 12 = .ok (.iload_n 2, 1) := by decide +kernel
theorem dX7_spot_13 : decode cX7_spot 13 = .ok (.iadd, 1) := by decide +kernel
theorem dX7_spot_14 : decode cX7_spot 14 = .ok (.ireturn, 1) := by decide +kernel
theorem dX7_fits_0 : decode cX7_fits 0 = .ok (.aload_n 0, 1) := by decide +kernel
theorem dX7_fits_1 : decode cX7_fits 1 = .ok (.iload_n 1, 1) := by decide +kernel
theorem dX7_fits_2 : decode cX7_fits 2 = .ok (.ifCond .ne 7, 3) := by decide +kernel
theorem dX7_fits_5 : decode cX7_fits 5 = .ok (.iconst 1, 1) := by decide +kernel
theorem dX7_fits_6 : decode cX7_fits 6 = .ok (.goto 12, 3) := by decide +kernel
theorem dX7_fits_9 : decode cX7_fits 9 = .ok (.iload_n 2, 1) := by decide +kernel
theorem dX7_fits_10 : decode cX7_fits 10 = .ok (.ifCond .eq 7, 3) := by decide +kernel
theorem dX7_fits_13 : decode cX7_fits 13 = .ok (.iconst 0, 1) := by decide +kernel
theorem dX7_fits_14 : decode cX7_fits 14 = .ok (.goto 4, 3) := by decide +kernel
theorem dX7_fits_17 : decode cX7_fits 17 = .ok (.iconst 2, 1) := by decide +kernel
theorem dX7_fits_18 : decode cX7_fits 18 = .ok (.putfield 22, 3) := by decide +kernel
theorem dX7_fits_21 : decode cX7_fits 21 = .ok (.aload_n 0, 1) := by decide +kernel
theorem dX7_fits_22 : decode cX7_fits 22 = .ok (.getfield 22, 3) := by decide +kernel
theorem dX7_fits_25 : decode cX7_fits 25 = .ok (.ifCond .ne 7, 3) := by decide +kernel
theorem dX7_fits_28 : decode cX7_fits 28 = .ok (.iconst 1, 1) := by decide +kernel
theorem dX7_fits_29 : decode cX7_fits 29 = .ok (.goto 4, 3) := by decide +kernel
theorem dX7_fits_32 : decode cX7_fits 32 = .ok (.iconst 0, 1) := by decide +kernel
theorem dX7_fits_33 : decode cX7_fits 33 = .ok (.ireturn, 1) := by decide +kernel
theorem dX7_counts_0 : decode cX7_counts 0 = .ok (.iconst 0, 1) := by decide +kernel
theorem dX7_counts_1 : decode cX7_counts 1 = .ok (.istore_n 1, 1) := by decide +kernel
theorem dX7_counts_2 : decode cX7_counts 2 = .ok (.iload_n 1, 1) := by decide +kernel
theorem dX7_counts_3 : decode cX7_counts 3 = .ok (.sipush 128, 3) := by decide +kernel
theorem dX7_counts_6 : decode cX7_counts 6 = .ok (.if_icmp .ge 16, 3) := by decide +kernel
theorem dX7_counts_9 : decode cX7_counts 9 = .ok (.aload_n 0, 1) := by decide +kernel
theorem dX7_counts_10 : decode cX7_counts 10 = .ok (.getfield 16, 3) := by decide +kernel
theorem dX7_counts_13 : decode cX7_counts 13 = .ok (.iload_n 1, 1) := by decide +kernel
theorem dX7_counts_14 : decode cX7_counts 14 = .ok (.iconst 0, 1) := by decide +kernel
theorem dX7_counts_15 : decode cX7_counts 15 = .ok (.iastore, 1) := by decide +kernel
theorem dX7_counts_16 : decode cX7_counts 16 = .ok (.iinc 1 1, 3) := by decide +kernel
theorem dX7_counts_19 : decode cX7_counts 19 = .ok (.goto (-17), 3) := by decide +kernel
theorem dX7_counts_22 : decode cX7_counts 22 = .ok (.iconst 0, 1) := by decide +kernel
theorem dX7_counts_23 : decode cX7_counts 23 = .ok (.istore_n 1, 1) := by decide +kernel
theorem dX7_counts_24 : decode cX7_counts 24 = .ok (.iload_n 1, 1) := by decide +kernel
theorem dX7_counts_25 : decode cX7_counts 25 = .ok (.sipush 2304, 3) := by decide +kernel
theorem dX7_counts_28 : decode cX7_counts 28 = .ok (.if_icmp .ge 35, 3) := by decide +kernel
theorem dX7_counts_31 : decode cX7_counts 31 = .ok (.aload_n 0, 1) := by decide +kernel
theorem dX7_counts_32 : decode cX7_counts 32 = .ok (.getfield 7, 3) := by decide +kernel
theorem dX7_counts_35 : decode cX7_counts 35 = .ok (.iload_n 1, 1) := by decide +kernel
theorem dX7_counts_36 : decode cX7_counts 36 = .ok (.iaload, 1) := by decide +kernel
theorem dX7_counts_37 : decode cX7_counts 37 = .ok (.ifCond .le 20, 3) := by decide +kernel
theorem dX7_counts_40 : decode cX7_counts 40 = .ok (.aload_n 0, 1) := by decide +kernel
theorem dX7_counts_41 : decode cX7_counts 41 = .ok (.getfield 16, 3) := by decide +kernel
theorem dX7_counts_44 : decode cX7_counts 44 = .ok (.aload_n 0, 1) := by decide +kernel
theorem dX7_counts_45 : decode cX7_counts 45 = .ok (.getfield 7, 3) := by decide +kernel
theorem dX7_counts_48 : decode cX7_counts 48 = .ok (.iload_n 1, 1) := by decide +kernel
theorem dX7_counts_49 : decode cX7_counts 49 = .ok (.iaload, 1) := by decide +kernel
theorem dX7_counts_50 : decode cX7_counts 50 = .ok (.iconst 1, 1) := by decide +kernel
theorem dX7_counts_51 : decode cX7_counts 51 = .ok (.isub, 1) := by decide +kernel
theorem dX7_counts_52 : decode cX7_counts 52 = .ok (.dup2, 1) := by decide +kernel
theorem dX7_counts_53 : decode cX7_counts 53 = .ok (.iaload, 1) := by decide +kernel
theorem dX7_counts_54 : decode cX7_counts 54 = .ok (.iconst 1, 1) := by decide +kernel
theorem dX7_counts_55 : decode cX7_counts 55 = .ok (.iadd, 1) := by decide +kernel
theorem dX7_counts_56 : decode cX7_counts 56 = .ok (.iastore, 1) := by decide +kernel
theorem dX7_counts_57 : decode cX7_counts 57 = .ok (.iinc 1 1, 3) := by decide +kernel
theorem dX7_counts_60 : decode cX7_counts 60 = .ok (.goto (-36), 3) := by decide +kernel
theorem dX7_counts_63 : decode cX7_counts 63 = .ok (.iconst 0, 1) := by decide +kernel
theorem dX7_counts_64 : decode cX7_counts 64 = .ok (.istore_n 1, 1) := by decide +kernel
theorem dX7_counts_65 : decode cX7_counts 65 = .ok (.iconst 0, 1) := by decide +kernel
theorem dX7_counts_66 : decode cX7_counts 66 = .ok (.istore_n 2, 1) := by decide +kernel
theorem dX7_counts_67 : decode cX7_counts 67 = .ok (.iload_n 2, 1) := by decide +kernel
theorem dX7_counts_68 : decode cX7_counts 68 = .ok (.sipush 128, 3) := by decide +kernel
theorem dX7_counts_71 : decode cX7_counts 71 = .ok (.if_icmp .ge 86, 3) := by decide +kernel
theorem dX7_counts_74 : decode cX7_counts 74 = .ok (.aload_n 0, 1) := by decide +kernel
theorem dX7_counts_75 : decode cX7_counts 75 = .ok (.getfield 16, 3) := by decide +kernel
theorem dX7_counts_78 : decode cX7_counts 78 = .ok (.iload_n 2, 1) := by decide +kernel
theorem dX7_counts_79 : decode cX7_counts 79 = .ok (.iaload, 1) := by decide +kernel
theorem dX7_counts_80 : decode cX7_counts 80 = .ok (.ifCond .ne 55, 3) := by decide +kernel
theorem dX7_counts_83 : decode cX7_counts 83 = .ok (.aload_n 0, 1) := by decide +kernel
theorem dX7_counts_84 : decode cX7_counts 84 = .ok (.getfield 7, 3) := by decide +kernel
theorem dX7_counts_87 : decode cX7_counts 87 = .ok (.sipush 2814, 3) := by decide +kernel
theorem dX7_counts_90 : decode cX7_counts 90 = .ok (.iload_n 2, 1) := by decide +kernel
theorem dX7_counts_91 : decode cX7_counts 91 = .ok (.iadd, 1) := by decide +kernel
theorem dX7_counts_92 : decode cX7_counts 92 = .ok (.iaload, 1) := by decide +kernel
theorem dX7_counts_93 : decode cX7_counts 93 = .ok (.ifCond .le 42, 3) := by decide +kernel
theorem dX7_counts_96 : decode cX7_counts 96 = .ok (.iinc 1 1, 3) := by decide +kernel
theorem dX7_counts_99 : decode cX7_counts 99 = .ok (.aload_n 0, 1) := by decide +kernel
theorem dX7_counts_100 : decode cX7_counts 100 = .ok (.getfield 7, 3) := by decide +kernel
theorem dX7_counts_103 : decode cX7_counts 103 = .ok (.sipush 2686, 3) := by decide +kernel
theorem dX7_counts_106 : decode cX7_counts 106 = .ok (.iload_n 2, 1) := by decide +kernel
theorem dX7_counts_107 : decode cX7_counts 107 = .ok (.iadd, 1) := by decide +kernel
theorem dX7_counts_108 : decode cX7_counts 108 = .ok (.aload_n 0, 1) := by decide +kernel
theorem dX7_counts_109 : decode cX7_counts 109 = .ok (.getfield 7, 3) := by decide +kernel
theorem dX7_counts_112 : decode cX7_counts 112 = .ok (.sipush 2558, 3) := by decide +kernel
theorem dX7_counts_115 : decode cX7_counts 115 = .ok (.iload_n 2, 1) := by decide +kernel
theorem dX7_counts_116 : decode cX7_counts 116 = .ok (.iadd, 1) := by decide +kernel
theorem dX7_counts_117 : decode cX7_counts 117 = .ok (.iaload, 1) := by decide +kernel
theorem dX7_counts_118 : decode cX7_counts 118 = .ok (.aload_n 0, 1) := by decide +kernel
theorem dX7_counts_119 : decode cX7_counts 119 = .ok (.getfield 7, 3) := by decide +kernel
theorem dX7_counts_122 : decode cX7_counts 122 = .ok (.sipush 3395, 3) := by decide +kernel
theorem dX7_counts_125 : decode cX7_counts 125 = .ok (.iaload, 1) := by decide +kernel
theorem dX7_counts_126 : decode cX7_counts 126 = .ok (.if_icmp .ne 7, 3) := by decide +kernel
theorem dX7_counts_129 : decode cX7_counts 129 = .ok (.iconst 0, 1) := by decide +kernel
theorem dX7_counts_130 : decode cX7_counts 130 = .ok (.goto 4, 3) := by decide +kernel
theorem dX7_counts_133 : decode cX7_counts 133 = .ok (.iconst 1, 1) := by decide +kernel
theorem dX7_counts_134 : decode cX7_counts 134 = .ok (.iastore, 1) := by decide +kernel
theorem dX7_counts_135 : decode cX7_counts 135 = .ok (.aload_n 0, 1) := by decide +kernel
theorem dX7_counts_136 : decode cX7_counts 136 = .ok (.getfield 7, 3) := by decide +kernel
theorem dX7_counts_139 : decode cX7_counts 139 = .ok (.sipush 2814, 3) := by decide +kernel
theorem dX7_counts_142 : decode cX7_counts 142 = .ok (.iload_n 2, 1) := by decide +kernel
theorem dX7_counts_143 : decode cX7_counts 143 = .ok (.iadd, 1) := by decide +kernel
theorem dX7_counts_144 : decode cX7_counts 144 = .ok (.aload_n 0, 1) := by decide +kernel
theorem dX7_counts_145 : decode cX7_counts 145 = .ok (.getfield 16, 3) := by decide +kernel
theorem dX7_counts_148 : decode cX7_counts 148 = .ok (.iload_n 2, 1) := by decide +kernel
theorem dX7_counts_149 : decode cX7_counts 149 = .ok (.iaload, 1) := by decide +kernel
theorem dX7_counts_150 : decode cX7_counts 150 = .ok (.iastore, 1) := by decide +kernel
theorem dX7_counts_151 : decode cX7_counts 151 = .ok (.iinc 2 1, 3) := by decide +kernel
theorem dX7_counts_154 : decode cX7_counts 154 = .ok (.goto (-87), 3) := by decide +kernel
theorem dX7_counts_157 : decode cX7_counts 157 = .ok (.iload_n 1, 1) := by decide +kernel
theorem dX7_counts_158 : decode cX7_counts 158 = .ok (.ireturn, 1) := by decide +kernel
theorem dX7_isFree_0 : decode cX7_isFree 0 = .ok (.aload_n 0, 1) := by decide +kernel
theorem dX7_isFree_1 : decode cX7_isFree 1 = .ok (.getfield 7, 3) := by decide +kernel
theorem dX7_isFree_4 : decode cX7_isFree 4 = .ok (.sipush 2814, 3) := by decide +kernel
theorem dX7_isFree_7 : decode cX7_isFree 7 = .ok (.iload_n 1, 1) := by decide +kernel
theorem dX7_isFree_8 : decode cX7_isFree 8 = .ok (.iadd, 1) := by decide +kernel
theorem dX7_isFree_9 : decode cX7_isFree 9 = .ok (.iaload, 1) := by decide +kernel
theorem dX7_isFree_10 : decode cX7_isFree 10 = .ok (.ifCond .ne 20, 3) := by decide +kernel
theorem dX7_isFree_13 : decode cX7_isFree 13 = .ok (.aload_n 0, 1) := by decide +kernel
theorem dX7_isFree_14 : decode cX7_isFree 14 = .ok (.getfield 7, 3) := by decide +kernel
theorem dX7_isFree_17 : decode cX7_isFree 17 = .ok (.sipush 2686, 3) := by decide +kernel
theorem dX7_isFree_20 : decode cX7_isFree 20 = .ok (.iload_n 1, 1) := by decide +kernel
theorem dX7_isFree_21 : decode cX7_isFree 21 = .ok (.iadd, 1) := by decide +kernel
theorem dX7_isFree_22 : decode cX7_isFree 22 = .ok (.iaload, 1) := by decide +kernel
theorem dX7_isFree_23 : decode cX7_isFree 23 = .ok (.ifCond .ne 7, 3) := by decide +kernel
theorem dX7_isFree_26 : decode cX7_isFree 26 = .ok (.iconst 1, 1) := by decide +kernel
theorem dX7_isFree_27 : decode cX7_isFree 27 = .ok (.goto 4, 3) := by decide +kernel
theorem dX7_isFree_30 : decode cX7_isFree 30 = .ok (.iconst 0, 1) := by decide +kernel
theorem dX7_isFree_31 : decode cX7_isFree 31 = .ok (.ireturn, 1) := by decide +kernel
theorem dX7_countFree_0 : decode cX7_countFree 0 = .ok (.iconst 0, 1) := by decide +kernel
theorem dX7_countFree_1 : decode cX7_countFree 1 = .ok (.istore_n 3, 1) := by decide +kernel
theorem dX7_countFree_2 : decode cX7_countFree 2 = .ok (.iload_n 1, 1) := by decide +kernel
theorem dX7_countFree_3 : decode cX7_countFree 3 = .ok (.istore 4, 2) := by decide +kernel
theorem dX7_countFree_5 : decode cX7_countFree 5 = .ok (.iload 4, 2) := by decide +kernel
theorem dX7_countFree_7 : decode cX7_countFree 7 = .ok (.iload_n 2, 1) := by decide +kernel
theorem dX7_countFree_8 : decode cX7_countFree 8 = .ok (.if_icmp .ge 26, 3) := by decide +kernel
theorem dX7_countFree_11 : decode cX7_countFree 11 = .ok (.iload_n 3, 1) := by decide +kernel
theorem dX7_countFree_12 : decode cX7_countFree 12 = .ok (.aload_n 0, 1) := by decide +kernel
theorem dX7_countFree_13 : decode cX7_countFree 13 = .ok (.iload 4, 2) := by decide +kernel
theorem dX7_countFree_15 : decode cX7_countFree 15 = .ok (.invokevirtual 34, 3) := by decide +kernel
theorem dX7_countFree_18 : decode cX7_countFree 18 = .ok (.ifCond .eq 7, 3) := by decide +kernel
theorem dX7_countFree_21 : decode cX7_countFree 21 = .ok (.iconst 1, 1) := by decide +kernel
theorem dX7_countFree_22 : decode cX7_countFree 22 = .ok (.goto 4, 3) := by decide +kernel
theorem dX7_countFree_25 : decode cX7_countFree 25 = .ok (.iconst 0, 1) := by decide +kernel
theorem dX7_countFree_26 : decode cX7_countFree 26 = .ok (.iadd, 1) := by decide +kernel
theorem dX7_countFree_27 : decode cX7_countFree 27 = .ok (.istore_n 3, 1) := by decide +kernel
theorem dX7_countFree_28 : decode cX7_countFree 28 = .ok (.iinc 4 1, 3) := by decide +kernel
theorem dX7_countFree_31 : decode cX7_countFree 31 = .ok (.goto (-26), 3) := by decide +kernel
theorem dX7_countFree_34 : decode cX7_countFree 34 = .ok (.iload_n 3, 1) := by decide +kernel
theorem dX7_countFree_35 : decode cX7_countFree 35 = .ok (.ireturn, 1) := by decide +kernel
theorem dX7_nextFree_0 : decode cX7_nextFree 0 = .ok (.iconst 0, 1) := by decide +kernel
theorem dX7_nextFree_1 : decode cX7_nextFree 1 = .ok (.istore_n 1, 1) := by decide +kernel
theorem dX7_nextFree_2 : decode cX7_nextFree 2 = .ok (.iconst 1, 1) := by decide +kernel
theorem dX7_nextFree_3 : decode cX7_nextFree 3 = .ok (.istore_n 2, 1) := by decide +kernel
theorem dX7_nextFree_4 : decode cX7_nextFree 4 = .ok (.iload_n 2, 1) := by decide +kernel
theorem dX7_nextFree_5 : decode cX7_nextFree 5 = .ok (.iconst 4, 1) := by decide +kernel
theorem dX7_nextFree_6 : decode cX7_nextFree 6 = .ok (.if_icmp .ge 58, 3) := by decide +kernel
theorem dX7_nextFree_9 : decode cX7_nextFree 9 = .ok (.aload_n 0, 1) := by decide +kernel
theorem dX7_nextFree_10 : decode cX7_nextFree 10 = .ok (.bipush 32, 2) := by decide +kernel
theorem dX7_nextFree_12 : decode cX7_nextFree 12 = .ok (.iload_n 2, 1) := by decide +kernel
theorem dX7_nextFree_13 : decode cX7_nextFree 13 = .ok (.imul, 1) := by decide +kernel
theorem dX7_nextFree_14 : decode cX7_nextFree 14 = .ok (.bipush 32, 2) := by decide +kernel
theorem dX7_nextFree_16 : decode cX7_nextFree 16 = .ok (.iload_n 2, 1) := by decide +kernel
theorem dX7_nextFree_17 : decode cX7_nextFree 17 = .ok (.imul, 1) := by decide +kernel
theorem dX7_nextFree_18 : decode cX7_nextFree 18 = .ok (.bipush 32, 2) := by decide +kernel
theorem dX7_nextFree_20 : decode cX7_nextFree 20 = .ok (.iadd, 1) := by decide +kernel
theorem dX7_nextFree_21 : decode cX7_nextFree 21 = .ok (.invokevirtual 37, 3) := by decide +kernel
theorem dX7_nextFree_24 : decode cX7_nextFree 24 = .ok (.aload_n 0, 1) := by decide +kernel
theorem dX7_nextFree_25 : decode cX7_nextFree 25 = .ok (.bipush 32, 2) := by decide +kernel
theorem dX7_nextFree_27 : decode cX7_nextFree 27 = .ok (.iload_n 1, 1) := by decide +kernel
theorem dX7_nextFree_28 : decode cX7_nextFree 28 = .ok (.imul, 1) := by decide +kernel
theorem dX7_nextFree_29 : decode cX7_nextFree 29 = .ok (.bipush 32, 2) := by decide +kernel
theorem dX7_nextFree_31 : decode cX7_nextFree 31 = .ok (.iload_n 1, 1) := by decide +kernel
theorem dX7_nextFree_32 : decode cX7_nextFree 32 = .ok (.imul, 1) := by decide +kernel
theorem dX7_nextFree_33 : decode cX7_nextFree 33 = .ok (.bipush 32, 2) := by decide +kernel
theorem dX7_nextFree_35 : decode cX7_nextFree 35 = .ok (.iadd, 1) := by decide +kernel
theorem dX7_nextFree_36 : decode cX7_nextFree 36 = .ok (.invokevirtual 37, 3) := by decide +kernel
theorem dX7_nextFree_39 : decode cX7_nextFree 39 = .ok (.if_icmp .le 7, 3) := by decide +kernel
theorem dX7_nextFree_42 : decode cX7_nextFree 42 = .ok (.iconst 1, 1) := by decide +kernel
theorem dX7_nextFree_43 : decode cX7_nextFree 43 = .ok (.goto 4, 3) := by decide +kernel
theorem dX7_nextFree_46 : decode cX7_nextFree 46 = .ok (.iconst 0, 1) := by decide +kernel
theorem dX7_nextFree_47 : decode cX7_nextFree 47 = .ok (.istore_n 3, 1) := by decide +kernel
theorem dX7_nextFree_48 : decode cX7_nextFree 48 = .ok (.iload_n 3, 1) := by decide +kernel
theorem dX7_nextFree_49 : decode cX7_nextFree 49 = .ok (.ifCond .eq 7, 3) := by decide +kernel
theorem dX7_nextFree_52 : decode cX7_nextFree 52 = .ok (.iload_n 2, 1) := by decide +kernel
theorem dX7_nextFree_53 : decode cX7_nextFree 53 = .ok (.goto 4, 3) := by decide +kernel
theorem dX7_nextFree_56 : decode cX7_nextFree 56 = .ok (.iload_n 1, 1) := by decide +kernel
theorem dX7_nextFree_57 : decode cX7_nextFree 57 = .ok (.istore_n 1, 1) := by decide +kernel
theorem dX7_nextFree_58 : decode cX7_nextFree 58 = .ok (.iinc 2 1, 3) := by decide +kernel
theorem dX7_nextFree_61 : decode cX7_nextFree 61 = .ok (.goto (-57), 3) := by decide +kernel
theorem dX7_nextFree_64 : decode cX7_nextFree 64 = .ok (.bipush 32, 2) := by decide +kernel
theorem dX7_nextFree_66 : decode cX7_nextFree 66 = .ok (.iload_n 1, 1) := by decide +kernel
theorem dX7_nextFree_67 : decode cX7_nextFree 67 = .ok (.imul, 1) := by decide +kernel
theorem dX7_nextFree_68 : decode cX7_nextFree 68 = .ok (.istore_n 2, 1) := by decide +kernel
theorem dX7_nextFree_69 : decode cX7_nextFree 69 = .ok (.iload_n 2, 1) := by decide +kernel
theorem dX7_nextFree_70 : decode cX7_nextFree 70 = .ok (.bipush 32, 2) := by decide +kernel
theorem dX7_nextFree_72 : decode cX7_nextFree 72 = .ok (.iload_n 1, 1) := by decide +kernel
theorem dX7_nextFree_73 : decode cX7_nextFree 73 = .ok (.imul, 1) := by decide +kernel
theorem dX7_nextFree_74 : decode cX7_nextFree 74 = .ok (.bipush 32, 2) := by decide +kernel
theorem dX7_nextFree_76 : decode cX7_nextFree 76 = .ok (.iadd, 1) := by decide +kernel
theorem dX7_nextFree_77 : decode cX7_nextFree 77 = .ok (.if_icmp .ge 19, 3) := by decide +kernel
theorem dX7_nextFree_80 : decode cX7_nextFree 80 = .ok (.aload_n 0, 1) := by decide +kernel
theorem dX7_nextFree_81 : decode cX7_nextFree 81 = .ok (.iload_n 2, 1) := by decide +kernel
theorem dX7_nextFree_82 : decode cX7_nextFree 82 = .ok (.invokevirtual 34, 3) := by decide +kernel
theorem dX7_nextFree_85 : decode cX7_nextFree 85 = .ok (.ifCond .eq 5, 3) := by decide +kernel
theorem dX7_nextFree_88 : decode cX7_nextFree 88 = .ok (.iload_n 2, 1) := by decide +kernel
theorem dX7_nextFree_89 : decode cX7_nextFree 89 = .ok (.ireturn, 1) := by decide +kernel
theorem dX7_nextFree_90 : decode cX7_nextFree 90 = .ok (.iinc 2 1, 3) := by decide +kernel
theorem dX7_nextFree_93 : decode cX7_nextFree 93 = .ok (.goto (-24), 3) := by decide +kernel
theorem dX7_nextFree_96 : decode cX7_nextFree 96 = .ok (.iconst (-1), 1) := by decide +kernel
theorem dX7_nextFree_97 : decode cX7_nextFree 97 = .ok (.ireturn, 1) := by decide +kernel
theorem dX7_write_0 : decode cX7_write 0 = .ok (.aload_n 0, 1) := by decide +kernel
theorem dX7_write_1 : decode cX7_write 1 = .ok (.aload_n 0, 1) := by decide +kernel
theorem dX7_write_2 : decode cX7_write 2 = .ok (.iload_n 1, 1) := by decide +kernel
theorem dX7_write_3 : decode cX7_write 3 = .ok (.invokevirtual 41, 3) := by decide +kernel
theorem dX7_write_6 : decode cX7_write 6 = .ok (.ifCond .eq 15, 3) := by decide +kernel
theorem dX7_write_9 : decode cX7_write 9 = .ok (.iload_n 2, 1) := by decide +kernel
theorem dX7_write_10 : decode cX7_write 10 = .ok (.iload_n 3, 1) := by decide +kernel
theorem dX7_write_11 : decode cX7_write 11 = .ok (.invokestatic 44, 3) := by decide +kernel
theorem dX7_write_14 : decode cX7_write 14 = .ok (.ifCond .eq 7, 3) := by decide +kernel
theorem dX7_write_17 : decode cX7_write 17 = .ok (.iconst 0, 1) := by decide +kernel
theorem dX7_write_18 : decode cX7_write 18 = .ok (.goto 4, 3) := by decide +kernel
theorem dX7_write_21 : decode cX7_write 21 = .ok (.iconst 1, 1) := by decide +kernel
theorem dX7_write_22 : decode cX7_write 22 = .ok (.putfield 22, 3) := by decide +kernel
theorem dX7_write_25 : decode cX7_write 25 = .ok (.aload_n 0, 1) := by decide +kernel
theorem dX7_write_26 : decode cX7_write 26 = .ok (.getfield 22, 3) := by decide +kernel
theorem dX7_write_29 : decode cX7_write 29 = .ok (.ifCond .le 5, 3) := by decide +kernel
theorem dX7_write_32 : decode cX7_write 32 = .ok (.iconst 0, 1) := by decide +kernel
theorem dX7_write_33 : decode cX7_write 33 = .ok (.ireturn, 1) := by decide +kernel
theorem dX7_write_34 : decode cX7_write 34 = .ok (.iload_n 1, 1) := by decide +kernel
theorem dX7_write_35 : decode cX7_write 35 = .ok (.iload_n 2, 1) := by decide +kernel
theorem dX7_write_36 : decode cX7_write 36 = .ok (.iload_n 3, 1) := by decide +kernel
theorem dX7_write_37 : decode cX7_write 37 = .ok (.invokestatic 48, 3) := by decide +kernel
theorem dX7_write_40 : decode cX7_write 40 = .ok (.istore 5, 2) := by decide +kernel
theorem dX7_write_42 : decode cX7_write 42 = .ok (.aload_n 0, 1) := by decide +kernel
theorem dX7_write_43 : decode cX7_write 43 = .ok (.getfield 7, 3) := by decide +kernel
theorem dX7_write_46 : decode cX7_write 46 = .ok (.iload 5, 2) := by decide +kernel
theorem dX7_write_48 : decode cX7_write 48 = .ok (.iaload, 1) := by decide +kernel
theorem dX7_write_49 : decode cX7_write 49 = .ok (.iconst 1, 1) := by decide +kernel
theorem dX7_write_50 : decode cX7_write 50 = .ok (.isub, 1) := by decide +kernel
theorem dX7_write_51 : decode cX7_write 51 = .ok (.istore 6, 2) := by decide +kernel
theorem dX7_write_53 : decode cX7_write 53 = .ok (.iload 6, 2) := by decide +kernel
theorem dX7_write_55 : decode cX7_write 55 = .ok (.ifCond .lt 44, 3) := by decide +kernel
theorem dX7_write_58 : decode cX7_write 58 = .ok (.aload_n 0, 1) := by decide +kernel
theorem dX7_write_59 : decode cX7_write 59 = .ok (.getfield 7, 3) := by decide +kernel
theorem dX7_write_62 : decode cX7_write 62 = .ok (.sipush 2558, 3) := by decide +kernel
theorem dX7_write_65 : decode cX7_write 65 = .ok (.iload 6, 2) := by decide +kernel
theorem dX7_write_67 : decode cX7_write 67 = .ok (.iadd, 1) := by decide +kernel
theorem dX7_write_68 : decode cX7_write 68 = .ok (.iaload, 1) := by decide +kernel
theorem dX7_write_69 : decode cX7_write 69 = .ok (.aload_n 0, 1) := by decide +kernel
theorem dX7_write_70 : decode cX7_write 70 = .ok (.getfield 7, 3) := by decide +kernel
theorem dX7_write_73 : decode cX7_write 73 = .ok (.sipush 3395, 3) := by decide +kernel
theorem dX7_write_76 : decode cX7_write 76 = .ok (.iaload, 1) := by decide +kernel
theorem dX7_write_77 : decode cX7_write 77 = .ok (.if_icmp .ne 22, 3) := by decide +kernel
theorem dX7_write_80 : decode cX7_write 80 = .ok (.aload_n 0, 1) := by decide +kernel
theorem dX7_write_81 : decode cX7_write 81 = .ok (.getfield 7, 3) := by decide +kernel
theorem dX7_write_84 : decode cX7_write 84 = .ok (.sipush 2814, 3) := by decide +kernel
theorem dX7_write_87 : decode cX7_write 87 = .ok (.iload 6, 2) := by decide +kernel
theorem dX7_write_89 : decode cX7_write 89 = .ok (.iadd, 1) := by decide +kernel
theorem dX7_write_90 : decode cX7_write 90 = .ok (.iaload, 1) := by decide +kernel
theorem dX7_write_91 : decode cX7_write 91 = .ok (.iconst 1, 1) := by decide +kernel
theorem dX7_write_92 : decode cX7_write 92 = .ok (.if_icmp .ne 7, 3) := by decide +kernel
theorem dX7_write_95 : decode cX7_write 95 = .ok (.iconst 1, 1) := by decide +kernel
theorem dX7_write_96 : decode cX7_write 96 = .ok (.goto 4, 3) := by decide +kernel
theorem dX7_write_99 : decode cX7_write 99 = .ok (.iconst 0, 1) := by decide +kernel
theorem dX7_write_100 : decode cX7_write 100 = .ok (.istore 7, 2) := by decide +kernel
theorem dX7_write_102 : decode cX7_write 102 = .ok (.iload 7, 2) := by decide +kernel
theorem dX7_write_104 : decode cX7_write 104 = .ok (.ifCond .eq 8, 3) := by decide +kernel
theorem dX7_write_107 : decode cX7_write 107 = .ok (.iload 6, 2) := by decide +kernel
theorem dX7_write_109 : decode cX7_write 109 = .ok (.goto 7, 3) := by decide +kernel
theorem dX7_write_112 : decode cX7_write 112 = .ok (.aload_n 0, 1) := by decide +kernel
theorem dX7_write_113 : decode cX7_write 113 = .ok (.invokevirtual 52, 3) := by decide +kernel
theorem dX7_write_116 : decode cX7_write 116 = .ok (.istore 6, 2) := by decide +kernel
theorem dX7_write_118 : decode cX7_write 118 = .ok (.aload_n 0, 1) := by decide +kernel
theorem dX7_write_119 : decode cX7_write 119 = .ok (.iload 6, 2) := by decide +kernel
theorem dX7_write_121 : decode cX7_write 121 = .ok (.ifCond .ge 7, 3) := by decide +kernel
theorem dX7_write_124 : decode cX7_write 124 = .ok (.iconst 2, 1) := by decide +kernel
theorem dX7_write_125 : decode cX7_write 125 = .ok (.goto 4, 3) := by decide +kernel
theorem dX7_write_128 : decode cX7_write 128 = .ok (.iconst 0, 1) := by decide +kernel
theorem dX7_write_129 : decode cX7_write 129 = .ok (.putfield 22, 3) := by decide +kernel
theorem dX7_write_132 : decode cX7_write 132 = .ok (.aload_n 0, 1) := by decide +kernel
theorem dX7_write_133 : decode cX7_write 133 = .ok (.getfield 22, 3) := by decide +kernel
theorem dX7_write_136 : decode cX7_write 136 = .ok (.ifCond .le 5, 3) := by decide +kernel
theorem dX7_write_139 : decode cX7_write 139 = .ok (.iconst 0, 1) := by decide +kernel
theorem dX7_write_140 : decode cX7_write 140 = .ok (.ireturn, 1) := by decide +kernel
theorem dX7_write_141 : decode cX7_write 141 = .ok (.aload_n 0, 1) := by decide +kernel
theorem dX7_write_142 : decode cX7_write 142 = .ok (.getfield 7, 3) := by decide +kernel
theorem dX7_write_145 : decode cX7_write 145 = .ok (.sipush 2430, 3) := by decide +kernel
theorem dX7_write_148 : decode cX7_write 148 = .ok (.iload 6, 2) := by decide +kernel
theorem dX7_write_150 : decode cX7_write 150 = .ok (.iadd, 1) := by decide +kernel
theorem dX7_write_151 : decode cX7_write 151 = .ok (.iload 4, 2) := by decide +kernel
theorem dX7_write_153 : decode cX7_write 153 = .ok (.iastore, 1) := by decide +kernel
theorem dX7_write_154 : decode cX7_write 154 = .ok (.aload_n 0, 1) := by decide +kernel
theorem dX7_write_155 : decode cX7_write 155 = .ok (.getfield 7, 3) := by decide +kernel
theorem dX7_write_158 : decode cX7_write 158 = .ok (.sipush 2558, 3) := by decide +kernel
theorem dX7_write_161 : decode cX7_write 161 = .ok (.iload 6, 2) := by decide +kernel
theorem dX7_write_163 : decode cX7_write 163 = .ok (.iadd, 1) := by decide +kernel
theorem dX7_write_164 : decode cX7_write 164 = .ok (.aload_n 0, 1) := by decide +kernel
theorem dX7_write_165 : decode cX7_write 165 = .ok (.getfield 7, 3) := by decide +kernel
theorem dX7_write_168 : decode cX7_write 168 = .ok (.sipush 3395, 3) := by decide +kernel
theorem dX7_write_171 : decode cX7_write 171 = .ok (.iaload, 1) := by decide +kernel
theorem dX7_write_172 : decode cX7_write 172 = .ok (.iastore, 1) := by decide +kernel
theorem dX7_write_173 : decode cX7_write 173 = .ok (.aload_n 0, 1) := by decide +kernel
theorem dX7_write_174 : decode cX7_write 174 = .ok (.getfield 7, 3) := by decide +kernel
theorem dX7_write_177 : decode cX7_write 177 = .ok (.iload 5, 2) := by decide +kernel
theorem dX7_write_179 : decode cX7_write 179 = .ok (.iload 6, 2) := by decide +kernel
theorem dX7_write_181 : decode cX7_write 181 = .ok (.iconst 1, 1) := by decide +kernel
theorem dX7_write_182 : decode cX7_write 182 = .ok (.iadd, 1) := by decide +kernel
theorem dX7_write_183 : decode cX7_write 183 = .ok (.iastore, 1) := by decide +kernel
theorem dX7_write_184 : decode cX7_write 184 = .ok (.aload_n 0, 1) := by decide +kernel
theorem dX7_write_185 : decode cX7_write 185 = .ok (.invokevirtual 56, 3) := by decide +kernel
theorem dX7_write_188 : decode cX7_write 188 = .ok (.istore 8, 2) := by decide +kernel
theorem dX7_write_190 : decode cX7_write 190 = .ok (.iload 8, 2) := by decide +kernel
theorem dX7_write_192 : decode cX7_write 192 = .ok (.ifCond .ge 7, 3) := by decide +kernel
theorem dX7_write_195 : decode cX7_write 195 = .ok (.iconst (-1), 1) := by decide +kernel
theorem dX7_write_196 : decode cX7_write 196 = .ok (.goto 5, 3) := by decide +kernel
theorem dX7_write_199 : decode cX7_write 199 = .ok (.iload 6, 2) := by decide +kernel
theorem dX7_write_201 : decode cX7_write 201 = .ok (.ireturn, 1) := by decide +kernel
theorem dX7_isKnown_0 : decode cX7_isKnown 0 = .ok (.aload_n 0, 1) := by decide +kernel
theorem dX7_isKnown_1 : decode cX7_isKnown 1 = .ok (.aload_n 0, 1) := by decide +kernel
theorem dX7_isKnown_2 : decode cX7_isKnown 2 = .ok (.iload_n 1, 1) := by decide +kernel
theorem dX7_isKnown_3 : decode cX7_isKnown 3 = .ok (.invokevirtual 41, 3) := by decide +kernel
theorem dX7_isKnown_6 : decode cX7_isKnown 6 = .ok (.ifCond .eq 15, 3) := by decide +kernel
theorem dX7_isKnown_9 : decode cX7_isKnown 9 = .ok (.iload_n 2, 1) := by decide +kernel
theorem dX7_isKnown_10 : decode cX7_isKnown 10 = .ok (.iload_n 3, 1) := by decide +kernel
theorem dX7_isKnown_11 : decode cX7_isKnown 11 = .ok (.invokestatic 44, 3) := by decide +kernel
theorem dX7_isKnown_14 : decode cX7_isKnown 14 = .ok (.ifCond .eq 7, 3) := by decide +kernel
theorem dX7_isKnown_17 : decode cX7_isKnown 17 = .ok (.iconst 1, 1) := by decide +kernel
theorem dX7_isKnown_18 : decode cX7_isKnown 18 = .ok (.goto 4, 3) := by decide +kernel
theorem dX7_isKnown_21 : decode cX7_isKnown 21 = .ok (.iconst 0, 1) := by decide +kernel
theorem dX7_isKnown_22 : decode cX7_isKnown 22 = .ok (.iconst 1, 1) := by decide +kernel
theorem dX7_isKnown_23 : decode cX7_isKnown 23 = .ok (.invokevirtual 59, 3) := by decide +kernel
theorem dX7_isKnown_26 : decode cX7_isKnown 26 = .ok (.ireturn, 1) := by decide +kernel
theorem dX7_valueAt_0 : decode cX7_valueAt 0 = .ok (.aload_n 0, 1) := by decide +kernel
theorem dX7_valueAt_1 : decode cX7_valueAt 1 = .ok (.getfield 7, 3) := by decide +kernel
theorem dX7_valueAt_4 : decode cX7_valueAt 4 = .ok (.iload_n 1, 1) := by decide +kernel
theorem dX7_valueAt_5 : decode cX7_valueAt 5 = .ok (.iaload, 1) := by decide +kernel
theorem dX7_valueAt_6 : decode cX7_valueAt 6 = .ok (.ifCond .ne 7, 3) := by decide +kernel
theorem dX7_valueAt_9 : decode cX7_valueAt 9 = .ok (.iconst 0, 1) := by decide +kernel
theorem dX7_valueAt_10 : decode cX7_valueAt 10 = .ok (.goto 20, 3) := by decide +kernel
theorem dX7_valueAt_13 : decode cX7_valueAt 13 = .ok (.aload_n 0, 1) := by decide +kernel
theorem dX7_valueAt_14 : decode cX7_valueAt 14 = .ok (.getfield 7, 3) := by decide +kernel
theorem dX7_valueAt_17 : decode cX7_valueAt 17 = .ok (.sipush 2430, 3) := by decide +kernel
theorem dX7_valueAt_20 : decode cX7_valueAt 20 = .ok (.aload_n 0, 1) := by decide +kernel
theorem dX7_valueAt_21 : decode cX7_valueAt 21 = .ok (.getfield 7, 3) := by decide +kernel
theorem dX7_valueAt_24 : decode cX7_valueAt 24 = .ok (.iload_n 1, 1) := by decide +kernel
theorem dX7_valueAt_25 : decode cX7_valueAt 25 = .ok (.iaload, 1) := by decide +kernel
theorem dX7_valueAt_26 : decode cX7_valueAt 26 = .ok (.iadd, 1) := by decide +kernel
theorem dX7_valueAt_27 : decode cX7_valueAt 27 = .ok (.iconst 1, 1) := by decide +kernel
theorem dX7_valueAt_28 : decode cX7_valueAt 28 = .ok (.isub, 1) := by decide +kernel
theorem dX7_valueAt_29 : decode cX7_valueAt 29 = .ok (.iaload, 1) := by decide +kernel
theorem dX7_valueAt_30 : decode cX7_valueAt 30 = .ok (.ireturn, 1) := by decide +kernel
theorem dX7_read_0 : decode cX7_read 0 = .ok (.aload_n 0, 1) := by decide +kernel
theorem dX7_read_1 : decode cX7_read 1 = .ok (.iload_n 1, 1) := by decide +kernel
theorem dX7_read_2 : decode cX7_read 2 = .ok (.iload_n 2, 1) := by decide +kernel
theorem dX7_read_3 : decode cX7_read 3 = .ok (.iload_n 3, 1) := by decide +kernel
theorem dX7_read_4 : decode cX7_read 4 = .ok (.invokevirtual 63, 3) := by decide +kernel
theorem dX7_read_7 : decode cX7_read 7 = .ok (.ifCond .eq 16, 3) := by decide +kernel
theorem dX7_read_10 : decode cX7_read 10 = .ok (.aload_n 0, 1) := by decide +kernel
theorem dX7_read_11 : decode cX7_read 11 = .ok (.iload_n 1, 1) := by decide +kernel
theorem dX7_read_12 : decode cX7_read 12 = .ok (.iload_n 2, 1) := by decide +kernel
theorem dX7_read_13 : decode cX7_read 13 = .ok (.iload_n 3, 1) := by decide +kernel
theorem dX7_read_14 : decode cX7_read 14 = .ok (.invokestatic 48, 3) := by decide +kernel
theorem dX7_read_17 : decode cX7_read 17 = .ok (.invokevirtual 66, 3) := by decide +kernel
theorem dX7_read_20 : decode cX7_read 20 = .ok (.goto 4, 3) := by decide +kernel
theorem dX7_read_23 : decode cX7_read 23 = .ok (.iconst 0, 1) := by decide +kernel
theorem dX7_read_24 : decode cX7_read 24 = .ok (.ireturn, 1) := by decide +kernel
theorem dX7_blockAt_0 : decode cX7_blockAt 0 = .ok (.aload_n 0, 1) := by decide +kernel
theorem dX7_blockAt_1 : decode cX7_blockAt 1 = .ok (.iload_n 1, 1) := by decide +kernel
theorem dX7_blockAt_2 : decode cX7_blockAt 2 = .ok (.iload_n 2, 1) := by decide +kernel
theorem dX7_blockAt_3 : decode cX7_blockAt 3 = .ok (.iload_n 3, 1) := by decide +kernel
theorem dX7_blockAt_4 : decode cX7_blockAt 4 = .ok (.invokevirtual 63, 3) := by decide +kernel
theorem dX7_blockAt_7 : decode cX7_blockAt 7 = .ok (.ifCond .eq 19, 3) := by decide +kernel
theorem dX7_blockAt_10 : decode cX7_blockAt 10 = .ok (.aload_n 0, 1) := by decide +kernel
theorem dX7_blockAt_11 : decode cX7_blockAt 11 = .ok (.getfield 7, 3) := by decide +kernel
theorem dX7_blockAt_14 : decode cX7_blockAt 14 = .ok (.iload_n 1, 1) := by decide +kernel
theorem dX7_blockAt_15 : decode cX7_blockAt 15 = .ok (.iload_n 2, 1) := by decide +kernel
theorem dX7_blockAt_16 : decode cX7_blockAt 16 = .ok (.iload_n 3, 1) := by decide +kernel
theorem dX7_blockAt_17 : decode cX7_blockAt 17 = .ok (.invokestatic 48, 3) := by decide +kernel
theorem dX7_blockAt_20 : decode cX7_blockAt 20 = .ok (.iaload, 1) := by decide +kernel
theorem dX7_blockAt_21 : decode cX7_blockAt 21 = .ok (.iconst 1, 1) := by decide +kernel
theorem dX7_blockAt_22 : decode cX7_blockAt 22 = .ok (.isub, 1) := by decide +kernel
theorem dX7_blockAt_23 : decode cX7_blockAt 23 = .ok (.goto 4, 3) := by decide +kernel
theorem dX7_blockAt_26 : decode cX7_blockAt 26 = .ok (.iconst 0, 1) := by decide +kernel
theorem dX7_blockAt_27 : decode cX7_blockAt 27 = .ok (.ireturn, 1) := by decide +kernel
theorem dX7_length_0 : decode cX7_length 0 = .ok (.iconst 0, 1) := by decide +kernel
theorem dX7_length_1 : decode cX7_length 1 = .ok (.istore_n 3, 1) := by decide +kernel
theorem dX7_length_2 : decode cX7_length 2 = .ok (.aload_n 0, 1) := by decide +kernel
theorem dX7_length_3 : decode cX7_length 3 = .ok (.aload_n 0, 1) := by decide +kernel
theorem dX7_length_4 : decode cX7_length 4 = .ok (.iload_n 1, 1) := by decide +kernel
theorem dX7_length_5 : decode cX7_length 5 = .ok (.invokevirtual 41, 3) := by decide +kernel
theorem dX7_length_8 : decode cX7_length 8 = .ok (.ifCond .eq 14, 3) := by decide +kernel
theorem dX7_length_11 : decode cX7_length 11 = .ok (.iload_n 2, 1) := by decide +kernel
theorem dX7_length_12 : decode cX7_length 12 = .ok (.invokestatic 30, 3) := by decide +kernel
theorem dX7_length_15 : decode cX7_length 15 = .ok (.ifCond .eq 7, 3) := by decide +kernel
theorem dX7_length_18 : decode cX7_length 18 = .ok (.iconst 1, 1) := by decide +kernel
theorem dX7_length_19 : decode cX7_length 19 = .ok (.goto 4, 3) := by decide +kernel
theorem dX7_length_22 : decode cX7_length 22 = .ok (.iconst 0, 1) := by decide +kernel
theorem dX7_length_23 : decode cX7_length 23 = .ok (.iconst 1, 1) := by decide +kernel
theorem dX7_length_24 : decode cX7_length 24 = .ok (.invokevirtual 59, 3) := by decide +kernel
theorem dX7_length_27 : decode cX7_length 27 = .ok (.istore 4, 2) := by decide +kernel
theorem dX7_length_29 : decode cX7_length 29 = .ok (.iconst 0, 1) := by decide +kernel
theorem dX7_length_30 : decode cX7_length 30 = .ok (.istore 5, 2) := by decide +kernel
theorem dX7_length_32 : decode cX7_length 32 = .ok (.iload 5, 2) := by decide +kernel
theorem dX7_length_34 : decode cX7_length 34 = .ok (.bipush 16, 2) := by decide +kernel
theorem dX7_length_36 : decode cX7_length 36 = .ok (.if_icmp .ge 38, 3) := by decide +kernel
theorem dX7_length_39 : decode cX7_length 39 = .ok (.iload 4, 2) := by decide +kernel
theorem dX7_length_41 : decode cX7_length 41 = .ok (.ifCond .eq 33, 3) := by decide +kernel
theorem dX7_length_44 : decode cX7_length 44 = .ok (.aload_n 0, 1) := by decide +kernel
theorem dX7_length_45 : decode cX7_length 45 = .ok (.getfield 7, 3) := by decide +kernel
theorem dX7_length_48 : decode cX7_length 48 = .ok (.iload_n 1, 1) := by decide +kernel
theorem dX7_length_49 : decode cX7_length 49 = .ok (.iload_n 2, 1) := by decide +kernel
theorem dX7_length_50 : decode cX7_length 50 = .ok (.iload 5, 2) := by decide +kernel
theorem dX7_length_52 : decode cX7_length 52 = .ok (.invokestatic 48, 3) := by decide +kernel
theorem dX7_length_55 : decode cX7_length 55 = .ok (.iaload, 1) := by decide +kernel
theorem dX7_length_56 : decode cX7_length 56 = .ok (.ifCond .le 10, 3) := by decide +kernel
theorem dX7_length_59 : decode cX7_length 59 = .ok (.iload 5, 2) := by decide +kernel
theorem dX7_length_61 : decode cX7_length 61 = .ok (.iconst 1, 1) := by decide +kernel
theorem dX7_length_62 : decode cX7_length 62 = .ok (.iadd, 1) := by decide +kernel
theorem dX7_length_63 : decode cX7_length 63 = .ok (.goto 4, 3) := by decide +kernel
theorem dX7_length_66 : decode cX7_length 66 = .ok (.iload_n 3, 1) := by decide +kernel
theorem dX7_length_67 : decode cX7_length 67 = .ok (.istore_n 3, 1) := by decide +kernel
theorem dX7_length_68 : decode cX7_length 68 = .ok (.iinc 5 1, 3) := by decide +kernel
theorem dX7_length_71 : decode cX7_length 71 = .ok (.goto (-39), 3) := by decide +kernel
theorem dX7_length_74 : decode cX7_length 74 = .ok (.iload_n 3, 1) := by decide +kernel
theorem dX7_length_75 : decode cX7_length 75 = .ok (.ireturn, 1) := by decide +kernel
theorem dX7_punch_0 : decode cX7_punch 0 = .ok (.aload_n 0, 1) := by decide +kernel
theorem dX7_punch_1 : decode cX7_punch 1 = .ok (.aload_n 0, 1) := by decide +kernel
theorem dX7_punch_2 : decode cX7_punch 2 = .ok (.iload_n 1, 1) := by decide +kernel
theorem dX7_punch_3 : decode cX7_punch 3 = .ok (.invokevirtual 41, 3) := by decide +kernel
theorem dX7_punch_6 : decode cX7_punch 6 = .ok (.ifCond .eq 15, 3) := by decide +kernel
theorem dX7_punch_9 : decode cX7_punch 9 = .ok (.iload_n 2, 1) := by decide +kernel
theorem dX7_punch_10 : decode cX7_punch 10 = .ok (.iload_n 3, 1) := by decide +kernel
theorem dX7_punch_11 : decode cX7_punch 11 = .ok (.invokestatic 44, 3) := by decide +kernel
theorem dX7_punch_14 : decode cX7_punch 14 = .ok (.ifCond .eq 7, 3) := by decide +kernel
theorem dX7_punch_17 : decode cX7_punch 17 = .ok (.iconst 1, 1) := by decide +kernel
theorem dX7_punch_18 : decode cX7_punch 18 = .ok (.goto 4, 3) := by decide +kernel
theorem dX7_punch_21 : decode cX7_punch 21 = .ok (.iconst 0, 1) := by decide +kernel
theorem dX7_punch_22 : decode cX7_punch 22 = .ok (.iload 4, 2) := by decide +kernel
theorem dX7_punch_24 : decode cX7_punch 24 = .ok (.iconst 1, 1) := by decide +kernel
theorem dX7_punch_25 : decode cX7_punch 25 = .ok (.bipush 16, 2) := by decide +kernel
theorem dX7_punch_27 : decode cX7_punch 27 = .ok (.iload_n 3, 1) := by decide +kernel
theorem dX7_punch_28 : decode cX7_punch 28 = .ok (.isub, 1) := by decide +kernel
theorem dX7_punch_29 : decode cX7_punch 29 = .ok (.invokestatic 26, 3) := by decide +kernel
theorem dX7_punch_32 : decode cX7_punch 32 = .ok (.invokevirtual 59, 3) := by decide +kernel
theorem dX7_punch_35 : decode cX7_punch 35 = .ok (.ifCond .ne 5, 3) := by decide +kernel
theorem dX7_punch_38 : decode cX7_punch 38 = .ok (.iconst 0, 1) := by decide +kernel
theorem dX7_punch_39 : decode cX7_punch 39 = .ok (.ireturn, 1) := by decide +kernel
theorem dX7_punch_40 : decode cX7_punch 40 = .ok (.iconst 0, 1) := by decide +kernel
theorem dX7_punch_41 : decode cX7_punch 41 = .ok (.istore 5, 2) := by decide +kernel
theorem dX7_punch_43 : decode cX7_punch 43 = .ok (.iconst 0, 1) := by decide +kernel
theorem dX7_punch_44 : decode cX7_punch 44 = .ok (.istore 6, 2) := by decide +kernel
theorem dX7_punch_46 : decode cX7_punch 46 = .ok (.iload 6, 2) := by decide +kernel
theorem dX7_punch_48 : decode cX7_punch 48 = .ok (.iload 4, 2) := by decide +kernel
theorem dX7_punch_50 : decode cX7_punch 50 = .ok (.if_icmp .ge 48, 3) := by decide +kernel
theorem dX7_punch_53 : decode cX7_punch 53 = .ok (.iload_n 1, 1) := by decide +kernel
theorem dX7_punch_54 : decode cX7_punch 54 = .ok (.iload_n 2, 1) := by decide +kernel
theorem dX7_punch_55 : decode cX7_punch 55 = .ok (.iload_n 3, 1) := by decide +kernel
theorem dX7_punch_56 : decode cX7_punch 56 = .ok (.iload 6, 2) := by decide +kernel
theorem dX7_punch_58 : decode cX7_punch 58 = .ok (.iadd, 1) := by decide +kernel
theorem dX7_punch_59 : decode cX7_punch 59 = .ok (.invokestatic 48, 3) := by decide +kernel
theorem dX7_punch_62 : decode cX7_punch 62 = .ok (.istore 7, 2) := by decide +kernel
theorem dX7_punch_64 : decode cX7_punch 64 = .ok (.iload 5, 2) := by decide +kernel
theorem dX7_punch_66 : decode cX7_punch 66 = .ok (.aload_n 0, 1) := by decide +kernel
theorem dX7_punch_67 : decode cX7_punch 67 = .ok (.getfield 7, 3) := by decide +kernel
theorem dX7_punch_70 : decode cX7_punch 70 = .ok (.iload 7, 2) := by decide +kernel
theorem dX7_punch_72 : decode cX7_punch 72 = .ok (.iaload, 1) := by decide +kernel
theorem dX7_punch_73 : decode cX7_punch 73 = .ok (.ifCond .le 7, 3) := by decide +kernel
theorem dX7_punch_76 : decode cX7_punch 76 = .ok (.iconst 1, 1) := by decide +kernel
theorem dX7_punch_77 : decode cX7_punch 77 = .ok (.goto 4, 3) := by decide +kernel
theorem dX7_punch_80 : decode cX7_punch 80 = .ok (.iconst 0, 1) := by decide +kernel
theorem dX7_punch_81 : decode cX7_punch 81 = .ok (.iadd, 1) := by decide +kernel
theorem dX7_punch_82 : decode cX7_punch 82 = .ok (.istore 5, 2) := by decide +kernel
theorem dX7_punch_84 : decode cX7_punch 84 = .ok (.aload_n 0, 1) := by decide +kernel
theorem dX7_punch_85 : decode cX7_punch 85 = .ok (.getfield 7, 3) := by decide +kernel
theorem dX7_punch_88 : decode cX7_punch 88 = .ok (.iload 7, 2) := by decide +kernel
theorem dX7_punch_90 : decode cX7_punch 90 = .ok (.iconst 0, 1) := by decide +kernel
theorem dX7_punch_91 : decode cX7_punch 91 = .ok (.iastore, 1) := by decide +kernel
theorem dX7_punch_92 : decode cX7_punch 92 = .ok (.iinc 6 1, 3) := by decide +kernel
theorem dX7_punch_95 : decode cX7_punch 95 = .ok (.goto (-49), 3) := by decide +kernel
theorem dX7_punch_98 : decode cX7_punch 98 = .ok (.aload_n 0, 1) := by decide +kernel
theorem dX7_punch_99 : decode cX7_punch 99 = .ok (.invokevirtual 56, 3) := by decide +kernel
theorem dX7_punch_102 : decode cX7_punch 102 = .ok (.ifCond .ge 7, 3) := by decide +kernel
theorem dX7_punch_105 : decode cX7_punch 105 = .ok (.iconst 0, 1) := by decide +kernel
theorem dX7_punch_106 : decode cX7_punch 106 = .ok (.goto 5, 3) := by decide +kernel
theorem dX7_punch_109 : decode cX7_punch 109 = .ok (.iload 5, 2) := by decide +kernel
theorem dX7_punch_111 : decode cX7_punch 111 = .ok (.ireturn, 1) := by decide +kernel
theorem dX7_reflink_0 : decode cX7_reflink 0 = .ok (.aload_n 0, 1) := by decide +kernel
theorem dX7_reflink_1 : decode cX7_reflink 1 = .ok (.iload_n 1, 1) := by decide +kernel
theorem dX7_reflink_2 : decode cX7_reflink 2 = .ok (.invokevirtual 41, 3) := by decide +kernel
theorem dX7_reflink_5 : decode cX7_reflink 5 = .ok (.ifCond .eq 25, 3) := by decide +kernel
theorem dX7_reflink_8 : decode cX7_reflink 8 = .ok (.iload_n 2, 1) := by decide +kernel
theorem dX7_reflink_9 : decode cX7_reflink 9 = .ok (.iload_n 3, 1) := by decide +kernel
theorem dX7_reflink_10 : decode cX7_reflink 10 = .ok (.invokestatic 44, 3) := by decide +kernel
theorem dX7_reflink_13 : decode cX7_reflink 13 = .ok (.ifCond .eq 17, 3) := by decide +kernel
theorem dX7_reflink_16 : decode cX7_reflink 16 = .ok (.iload 4, 2) := by decide +kernel
theorem dX7_reflink_18 : decode cX7_reflink 18 = .ok (.iload 5, 2) := by decide +kernel
theorem dX7_reflink_20 : decode cX7_reflink 20 = .ok (.invokestatic 44, 3) := by decide +kernel
theorem dX7_reflink_23 : decode cX7_reflink 23 = .ok (.ifCond .eq 7, 3) := by decide +kernel
theorem dX7_reflink_26 : decode cX7_reflink 26 = .ok (.iconst 1, 1) := by decide +kernel
theorem dX7_reflink_27 : decode cX7_reflink 27 = .ok (.goto 4, 3) := by decide +kernel
theorem dX7_reflink_30 : decode cX7_reflink 30 = .ok (.iconst 0, 1) := by decide +kernel
theorem dX7_reflink_31 : decode cX7_reflink 31 = .ok (.istore 7, 2) := by decide +kernel
theorem dX7_reflink_33 : decode cX7_reflink 33 = .ok (.aload_n 0, 1) := by decide +kernel
theorem dX7_reflink_34 : decode cX7_reflink 34 = .ok (.iload 7, 2) := by decide +kernel
theorem dX7_reflink_36 : decode cX7_reflink 36 = .ok (.iload 6, 2) := by decide +kernel
theorem dX7_reflink_38 : decode cX7_reflink 38 = .ok (.iconst 1, 1) := by decide +kernel
theorem dX7_reflink_39 : decode cX7_reflink 39 = .ok (.bipush 16, 2) := by decide +kernel
theorem dX7_reflink_41 : decode cX7_reflink 41 = .ok (.iload_n 3, 1) := by decide +kernel
theorem dX7_reflink_42 : decode cX7_reflink 42 = .ok (.isub, 1) := by decide +kernel
theorem dX7_reflink_43 : decode cX7_reflink 43 = .ok (.invokestatic 26, 3) := by decide +kernel
theorem dX7_reflink_46 : decode cX7_reflink 46 = .ok (.ifCond .eq 21, 3) := by decide +kernel
theorem dX7_reflink_49 : decode cX7_reflink 49 = .ok (.iload 6, 2) := by decide +kernel
theorem dX7_reflink_51 : decode cX7_reflink 51 = .ok (.iconst 1, 1) := by decide +kernel
theorem dX7_reflink_52 : decode cX7_reflink 52 = .ok (.bipush 16, 2) := by decide +kernel
theorem dX7_reflink_54 : decode cX7_reflink 54 = .ok (.iload 5, 2) := by decide +kernel
theorem dX7_reflink_56 : decode cX7_reflink 56 = .ok (.isub, 1) := by decide +kernel
theorem dX7_reflink_57 : decode cX7_reflink 57 = .ok (.invokestatic 26, 3) := by decide +kernel
theorem dX7_reflink_60 : decode cX7_reflink 60 = .ok (.ifCond .eq 7, 3) := by decide +kernel
theorem dX7_reflink_63 : decode cX7_reflink 63 = .ok (.iconst 1, 1) := by decide +kernel
theorem dX7_reflink_64 : decode cX7_reflink 64 = .ok (.goto 4, 3) := by decide +kernel
theorem dX7_reflink_67 : decode cX7_reflink 67 = .ok (.iconst 0, 1) := by decide +kernel
theorem dX7_reflink_68 : decode cX7_reflink 68 = .ok (.invokevirtual 59, 3) := by decide +kernel
theorem dX7_reflink_71 : decode cX7_reflink 71 = .ok (.ifCond .ne 5, 3) := by decide +kernel
theorem dX7_reflink_74 : decode cX7_reflink 74 = .ok (.iconst 0, 1) := by decide +kernel
theorem dX7_reflink_75 : decode cX7_reflink 75 = .ok (.ireturn, 1) := by decide +kernel
theorem dX7_reflink_76 : decode cX7_reflink 76 = .ok (.iconst 0, 1) := by decide +kernel
theorem dX7_reflink_77 : decode cX7_reflink 77 = .ok (.istore 8, 2) := by decide +kernel
theorem dX7_reflink_79 : decode cX7_reflink 79 = .ok (.iload 8, 2) := by decide +kernel
theorem dX7_reflink_81 : decode cX7_reflink 81 = .ok (.iload 6, 2) := by decide +kernel
theorem dX7_reflink_83 : decode cX7_reflink 83 = .ok (.if_icmp .ge 30, 3) := by decide +kernel
theorem dX7_reflink_86 : decode cX7_reflink 86 = .ok (.aload_n 0, 1) := by decide +kernel
theorem dX7_reflink_87 : decode cX7_reflink 87 = .ok (.getfield 19, 3) := by decide +kernel
theorem dX7_reflink_90 : decode cX7_reflink 90 = .ok (.iload 8, 2) := by decide +kernel
theorem dX7_reflink_92 : decode cX7_reflink 92 = .ok (.aload_n 0, 1) := by decide +kernel
theorem dX7_reflink_93 : decode cX7_reflink 93 = .ok (.getfield 7, 3) := by decide +kernel
theorem dX7_reflink_96 : decode cX7_reflink 96 = .ok (.iload_n 1, 1) := by decide +kernel
theorem dX7_reflink_97 : decode cX7_reflink 97 = .ok (.iload_n 2, 1) := by decide +kernel
theorem dX7_reflink_98 : decode cX7_reflink 98 = .ok (.iload_n 3, 1) := by decide +kernel
theorem dX7_reflink_99 : decode cX7_reflink 99 = .ok (.iload 8, 2) := by decide +kernel
theorem dX7_reflink_101 : decode cX7_reflink 101 = .ok (.iadd, 1) := by decide +kernel
theorem dX7_reflink_102 : decode cX7_reflink 102 = .ok (.invokestatic 48, 3) := by decide +kernel
theorem dX7_reflink_105 : decode cX7_reflink 105 = .ok (.iaload, 1) := by decide +kernel
theorem dX7_reflink_106 : decode cX7_reflink 106 = .ok (.iastore, 1) := by decide +kernel
theorem dX7_reflink_107 : decode cX7_reflink 107 = .ok (.iinc 8 1, 3) := by decide +kernel
theorem dX7_reflink_110 : decode cX7_reflink 110 = .ok (.goto (-31), 3) := by decide +kernel
theorem dX7_reflink_113 : decode cX7_reflink 113 = .ok (.iconst 0, 1) := by decide +kernel
theorem dX7_reflink_114 : decode cX7_reflink 114 = .ok (.istore 8, 2) := by decide +kernel
theorem dX7_reflink_116 : decode cX7_reflink 116 = .ok (.iconst 0, 1) := by decide +kernel
theorem dX7_reflink_117 : decode cX7_reflink 117 = .ok (.istore 9, 2) := by decide +kernel
theorem dX7_reflink_119 : decode cX7_reflink 119 = .ok (.iload 9, 2) := by decide +kernel
theorem dX7_reflink_121 : decode cX7_reflink 121 = .ok (.iload 6, 2) := by decide +kernel
theorem dX7_reflink_123 : decode cX7_reflink 123 = .ok (.if_icmp .ge 63, 3) := by decide +kernel
theorem dX7_reflink_126 : decode cX7_reflink 126 = .ok (.iload_n 1, 1) := by decide +kernel
theorem dX7_reflink_127 : decode cX7_reflink 127 = .ok (.iload 4, 2) := by decide +kernel
theorem dX7_reflink_129 : decode cX7_reflink 129 = .ok (.iload 5, 2) := by decide +kernel
theorem dX7_reflink_131 : decode cX7_reflink 131 = .ok (.iload 9, 2) := by decide +kernel
theorem dX7_reflink_133 : decode cX7_reflink 133 = .ok (.iadd, 1) := by decide +kernel
theorem dX7_reflink_134 : decode cX7_reflink 134 = .ok (.invokestatic 48, 3) := by decide +kernel
theorem dX7_reflink_137 : decode cX7_reflink 137 = .ok (.istore 10, 2) := by decide +kernel
theorem dX7_reflink_139 : decode cX7_reflink 139 = .ok (.iload 8, 2) := by decide +kernel
theorem dX7_reflink_141 : decode cX7_reflink 141 = .ok (.aload_n 0, 1) := by decide +kernel
theorem dX7_reflink_142 : decode cX7_reflink 142 = .ok (.getfield 7, 3) := by decide +kernel
theorem dX7_reflink_145 : decode cX7_reflink 145 = .ok (.iload 10, 2) := by decide +kernel
theorem dX7_reflink_147 : decode cX7_reflink 147 = .ok (.iaload, 1) := by decide +kernel
theorem dX7_reflink_148 : decode cX7_reflink 148 = .ok (.aload_n 0, 1) := by decide +kernel
theorem dX7_reflink_149 : decode cX7_reflink 149 = .ok (.getfield 19, 3) := by decide +kernel
theorem dX7_reflink_152 : decode cX7_reflink 152 = .ok (.iload 9, 2) := by decide +kernel
theorem dX7_reflink_154 : decode cX7_reflink 154 = .ok (.iaload, 1) := by decide +kernel
theorem dX7_reflink_155 : decode cX7_reflink 155 = .ok (.if_icmp .eq 7, 3) := by decide +kernel
theorem dX7_reflink_158 : decode cX7_reflink 158 = .ok (.iconst 1, 1) := by decide +kernel
theorem dX7_reflink_159 : decode cX7_reflink 159 = .ok (.goto 4, 3) := by decide +kernel
theorem dX7_reflink_162 : decode cX7_reflink 162 = .ok (.iconst 0, 1) := by decide +kernel
theorem dX7_reflink_163 : decode cX7_reflink 163 = .ok (.iadd, 1) := by decide +kernel
theorem dX7_reflink_164 : decode cX7_reflink 164 = .ok (.istore 8, 2) := by decide +kernel
theorem dX7_reflink_166 : decode cX7_reflink 166 = .ok (.aload_n 0, 1) := by decide +kernel
theorem dX7_reflink_167 : decode cX7_reflink 167 = .ok (.getfield 7, 3) := by decide +kernel
theorem dX7_reflink_170 : decode cX7_reflink 170 = .ok (.iload 10, 2) := by decide +kernel
theorem dX7_reflink_172 : decode cX7_reflink 172 = .ok (.aload_n 0, 1) := by decide +kernel
theorem dX7_reflink_173 : decode cX7_reflink 173 = .ok (.getfield 19, 3) := by decide +kernel
theorem dX7_reflink_176 : decode cX7_reflink 176 = .ok (.iload 9, 2) := by decide +kernel
theorem dX7_reflink_178 : decode cX7_reflink 178 = .ok (.iaload, 1) := by decide +kernel
theorem dX7_reflink_179 : decode cX7_reflink 179 = .ok (.iastore, 1) := by decide +kernel
theorem dX7_reflink_180 : decode cX7_reflink 180 = .ok (.iinc 9 1, 3) := by decide +kernel
theorem dX7_reflink_183 : decode cX7_reflink 183 = .ok (.goto (-64), 3) := by decide +kernel
theorem dX7_reflink_186 : decode cX7_reflink 186 = .ok (.aload_n 0, 1) := by decide +kernel
theorem dX7_reflink_187 : decode cX7_reflink 187 = .ok (.invokevirtual 56, 3) := by decide +kernel
theorem dX7_reflink_190 : decode cX7_reflink 190 = .ok (.ifCond .ge 7, 3) := by decide +kernel
theorem dX7_reflink_193 : decode cX7_reflink 193 = .ok (.iconst 0, 1) := by decide +kernel
theorem dX7_reflink_194 : decode cX7_reflink 194 = .ok (.goto 5, 3) := by decide +kernel
theorem dX7_reflink_197 : decode cX7_reflink 197 = .ok (.iload 8, 2) := by decide +kernel
theorem dX7_reflink_199 : decode cX7_reflink 199 = .ok (.ireturn, 1) := by decide +kernel
theorem dX7_isAllocated_0 : decode cX7_isAllocated 0 = .ok (.aload_n 0, 1) := by decide +kernel
theorem dX7_isAllocated_1 : decode cX7_isAllocated 1 = .ok (.getfield 7, 3) := by decide +kernel
theorem dX7_isAllocated_4 : decode cX7_isAllocated 4 = .ok (.sipush 2814, 3) := by decide +kernel
theorem dX7_isAllocated_7 : decode cX7_isAllocated 7 = .ok (.iload_n 1, 1) := by decide +kernel
theorem dX7_isAllocated_8 : decode cX7_isAllocated 8 = .ok (.iadd, 1) := by decide +kernel
theorem dX7_isAllocated_9 : decode cX7_isAllocated 9 = .ok (.iaload, 1) := by decide +kernel
theorem dX7_isAllocated_10 : decode cX7_isAllocated 10 = .ok (.ifCond .le 7, 3) := by decide +kernel
theorem dX7_isAllocated_13 : decode cX7_isAllocated 13 = .ok (.iconst 1, 1) := by decide +kernel
theorem dX7_isAllocated_14 : decode cX7_isAllocated 14 = .ok (.goto 4, 3) := by decide +kernel
theorem dX7_isAllocated_17 : decode cX7_isAllocated 17 = .ok (.iconst 0, 1) := by decide +kernel
theorem dX7_isAllocated_18 : decode cX7_isAllocated 18 = .ok (.ireturn, 1) := by decide +kernel
theorem dX7_isLogged_0 : decode cX7_isLogged 0 = .ok (.aload_n 0, 1) := by decide +kernel
theorem dX7_isLogged_1 : decode cX7_isLogged 1 = .ok (.getfield 7, 3) := by decide +kernel
theorem dX7_isLogged_4 : decode cX7_isLogged 4 = .ok (.sipush 2942, 3) := by decide +kernel
theorem dX7_isLogged_7 : decode cX7_isLogged 7 = .ok (.iload_n 1, 1) := by decide +kernel
theorem dX7_isLogged_8 : decode cX7_isLogged 8 = .ok (.iadd, 1) := by decide +kernel
theorem dX7_isLogged_9 : decode cX7_isLogged 9 = .ok (.iaload, 1) := by decide +kernel
theorem dX7_isLogged_10 : decode cX7_isLogged 10 = .ok (.iconst 1, 1) := by decide +kernel
theorem dX7_isLogged_11 : decode cX7_isLogged 11 = .ok (.if_icmp .ne 7, 3) := by decide +kernel
theorem dX7_isLogged_14 : decode cX7_isLogged 14 = .ok (.iconst 1, 1) := by decide +kernel
theorem dX7_isLogged_15 : decode cX7_isLogged 15 = .ok (.goto 4, 3) := by decide +kernel
theorem dX7_isLogged_18 : decode cX7_isLogged 18 = .ok (.iconst 0, 1) := by decide +kernel
theorem dX7_isLogged_19 : decode cX7_isLogged 19 = .ok (.istore_n 3, 1) := by decide +kernel
theorem dX7_isLogged_20 : decode cX7_isLogged 20 = .ok (.iload_n 2, 1) := by decide +kernel
theorem dX7_isLogged_21 : decode cX7_isLogged 21 = .ok (.iconst 2, 1) := by decide +kernel
theorem dX7_isLogged_22 : decode cX7_isLogged 22 = .ok (.if_icmp .ne 11, 3) := by decide +kernel
theorem dX7_isLogged_25 : decode cX7_isLogged 25 = .ok (.aload_n 0, 1) := by decide +kernel
theorem dX7_isLogged_26 : decode cX7_isLogged 26 = .ok (.iload_n 1, 1) := by decide +kernel
theorem dX7_isLogged_27 : decode cX7_isLogged 27 = .ok (.invokevirtual 70, 3) := by decide +kernel
theorem dX7_isLogged_30 : decode cX7_isLogged 30 = .ok (.goto 45, 3) := by decide +kernel
theorem dX7_isLogged_33 : decode cX7_isLogged 33 = .ok (.iload_n 2, 1) := by decide +kernel
theorem dX7_isLogged_34 : decode cX7_isLogged 34 = .ok (.iconst 1, 1) := by decide +kernel
theorem dX7_isLogged_35 : decode cX7_isLogged 35 = .ok (.if_icmp .ne 23, 3) := by decide +kernel
theorem dX7_isLogged_38 : decode cX7_isLogged 38 = .ok (.aload_n 0, 1) := by decide +kernel
theorem dX7_isLogged_39 : decode cX7_isLogged 39 = .ok (.iload_n 1, 1) := by decide +kernel
theorem dX7_isLogged_40 : decode cX7_isLogged 40 = .ok (.invokevirtual 70, 3) := by decide +kernel
theorem dX7_isLogged_43 : decode cX7_isLogged 43 = .ok (.ifCond .eq 11, 3) := by decide +kernel
theorem dX7_isLogged_46 : decode cX7_isLogged 46 = .ok (.iload_n 3, 1) := by decide +kernel
theorem dX7_isLogged_47 : decode cX7_isLogged 47 = .ok (.ifCond .ne 7, 3) := by decide +kernel
theorem dX7_isLogged_50 : decode cX7_isLogged 50 = .ok (.iconst 1, 1) := by decide +kernel
theorem dX7_isLogged_51 : decode cX7_isLogged 51 = .ok (.goto 24, 3) := by decide +kernel
theorem dX7_isLogged_54 : decode cX7_isLogged 54 = .ok (.iconst 0, 1) := by decide +kernel
theorem dX7_isLogged_55 : decode cX7_isLogged 55 = .ok (.goto 20, 3) := by decide +kernel
theorem dX7_isLogged_58 : decode cX7_isLogged 58 = .ok (.aload_n 0, 1) := by decide +kernel
theorem dX7_isLogged_59 : decode cX7_isLogged 59 = .ok (.iload_n 1, 1) := by decide +kernel
theorem dX7_isLogged_60 : decode cX7_isLogged 60 = .ok (.invokevirtual 70, 3) := by decide +kernel
theorem dX7_isLogged_63 : decode cX7_isLogged 63 = .ok (.ifCond .ne 11, 3) := by decide +kernel
theorem dX7_isLogged_66 : decode cX7_isLogged 66 = .ok (.iload_n 3, 1) := by decide +kernel
theorem dX7_isLogged_67 : decode cX7_isLogged 67 = .ok (.ifCond .eq 7, 3) := by decide +kernel
theorem dX7_isLogged_70 : decode cX7_isLogged 70 = .ok (.iconst 1, 1) := by decide +kernel
theorem dX7_isLogged_71 : decode cX7_isLogged 71 = .ok (.goto 4, 3) := by decide +kernel
theorem dX7_isLogged_74 : decode cX7_isLogged 74 = .ok (.iconst 0, 1) := by decide +kernel
theorem dX7_isLogged_75 : decode cX7_isLogged 75 = .ok (.ireturn, 1) := by decide +kernel
theorem dX7_runs_0 : decode cX7_runs 0 = .ok (.iconst 0, 1) := by decide +kernel
theorem dX7_runs_1 : decode cX7_runs 1 = .ok (.istore 4, 2) := by decide +kernel
theorem dX7_runs_3 : decode cX7_runs 3 = .ok (.bipush 32, 2) := by decide +kernel
theorem dX7_runs_5 : decode cX7_runs 5 = .ok (.iload_n 1, 1) := by decide +kernel
theorem dX7_runs_6 : decode cX7_runs 6 = .ok (.imul, 1) := by decide +kernel
theorem dX7_runs_7 : decode cX7_runs 7 = .ok (.bipush 32, 2) := by decide +kernel
theorem dX7_runs_9 : decode cX7_runs 9 = .ok (.iadd, 1) := by decide +kernel
theorem dX7_runs_10 : decode cX7_runs 10 = .ok (.istore 5, 2) := by decide +kernel
theorem dX7_runs_12 : decode cX7_runs 12 = .ok (.bipush 32, 2) := by decide +kernel
theorem dX7_runs_14 : decode cX7_runs 14 = .ok (.iload_n 1, 1) := by decide +kernel
theorem dX7_runs_15 : decode cX7_runs 15 = .ok (.imul, 1) := by decide +kernel
theorem dX7_runs_16 : decode cX7_runs 16 = .ok (.istore 6, 2) := by decide +kernel
theorem dX7_runs_18 : decode cX7_runs 18 = .ok (.iload 6, 2) := by decide +kernel
theorem dX7_runs_20 : decode cX7_runs 20 = .ok (.iload 5, 2) := by decide +kernel
theorem dX7_runs_22 : decode cX7_runs 22 = .ok (.if_icmp .ge 131, 3) := by decide +kernel
theorem dX7_runs_25 : decode cX7_runs 25 = .ok (.iconst 0, 1) := by decide +kernel
theorem dX7_runs_26 : decode cX7_runs 26 = .ok (.istore 7, 2) := by decide +kernel
theorem dX7_runs_28 : decode cX7_runs 28 = .ok (.iload 6, 2) := by decide +kernel
theorem dX7_runs_30 : decode cX7_runs 30 = .ok (.iload 7, 2) := by decide +kernel
theorem dX7_runs_32 : decode cX7_runs 32 = .ok (.iadd, 1) := by decide +kernel
theorem dX7_runs_33 : decode cX7_runs 33 = .ok (.iload 5, 2) := by decide +kernel
theorem dX7_runs_35 : decode cX7_runs 35 = .ok (.if_icmp .ge 22, 3) := by decide +kernel
theorem dX7_runs_38 : decode cX7_runs 38 = .ok (.aload_n 0, 1) := by decide +kernel
theorem dX7_runs_39 : decode cX7_runs 39 = .ok (.iload 6, 2) := by decide +kernel
theorem dX7_runs_41 : decode cX7_runs 41 = .ok (.iload 7, 2) := by decide +kernel
theorem dX7_runs_43 : decode cX7_runs 43 = .ok (.iadd, 1) := by decide +kernel
theorem dX7_runs_44 : decode cX7_runs 44 = .ok (.iload_n 2, 1) := by decide +kernel
theorem dX7_runs_45 : decode cX7_runs 45 = .ok (.invokevirtual 73, 3) := by decide +kernel
theorem dX7_runs_48 : decode cX7_runs 48 = .ok (.ifCond .eq 9, 3) := by decide +kernel
theorem dX7_runs_51 : decode cX7_runs 51 = .ok (.iinc 7 1, 3) := by decide +kernel
theorem dX7_runs_54 : decode cX7_runs 54 = .ok (.goto (-26), 3) := by decide +kernel
theorem dX7_runs_57 : decode cX7_runs 57 = .ok (.iload 7, 2) := by decide +kernel
theorem dX7_runs_59 : decode cX7_runs 59 = .ok (.ifCond .le 67, 3) := by decide +kernel
theorem dX7_runs_62 : decode cX7_runs 62 = .ok (.iload_n 3, 1) := by decide +kernel
theorem dX7_runs_63 : decode cX7_runs 63 = .ok (.ifCond .eq 63, 3) := by decide +kernel
theorem dX7_runs_66 : decode cX7_runs 66 = .ok (.bipush 100, 2) := by decide +kernel
theorem dX7_runs_68 : decode cX7_runs 68 = .ok (.iload 6, 2) := by decide +kernel
theorem dX7_runs_70 : decode cX7_runs 70 = .ok (.imul, 1) := by decide +kernel
theorem dX7_runs_71 : decode cX7_runs 71 = .ok (.iload 7, 2) := by decide +kernel
theorem dX7_runs_73 : decode cX7_runs 73 = .ok (.iadd, 1) := by decide +kernel
theorem dX7_runs_74 : decode cX7_runs 74 = .ok (.istore 8, 2) := by decide +kernel
theorem dX7_runs_76 : decode cX7_runs 76 = .ok (.aload_n 0, 1) := by decide +kernel
theorem dX7_runs_77 : decode cX7_runs 77 = .ok (.getfield 7, 3) := by decide +kernel
theorem dX7_runs_80 : decode cX7_runs 80 = .ok (.sipush 3070, 3) := by decide +kernel
theorem dX7_runs_83 : decode cX7_runs 83 = .ok (.bipush 80, 2) := by decide +kernel
theorem dX7_runs_85 : decode cX7_runs 85 = .ok (.iload_n 1, 1) := by decide +kernel
theorem dX7_runs_86 : decode cX7_runs 86 = .ok (.imul, 1) := by decide +kernel
theorem dX7_runs_87 : decode cX7_runs 87 = .ok (.iadd, 1) := by decide +kernel
theorem dX7_runs_88 : decode cX7_runs 88 = .ok (.aload_n 0, 1) := by decide +kernel
theorem dX7_runs_89 : decode cX7_runs 89 = .ok (.getfield 7, 3) := by decide +kernel
theorem dX7_runs_92 : decode cX7_runs 92 = .ok (.sipush 3390, 3) := by decide +kernel
theorem dX7_runs_95 : decode cX7_runs 95 = .ok (.iload_n 1, 1) := by decide +kernel
theorem dX7_runs_96 : decode cX7_runs 96 = .ok (.iadd, 1) := by decide +kernel
theorem dX7_runs_97 : decode cX7_runs 97 = .ok (.iaload, 1) := by decide +kernel
theorem dX7_runs_98 : decode cX7_runs 98 = .ok (.iadd, 1) := by decide +kernel
theorem dX7_runs_99 : decode cX7_runs 99 = .ok (.iload_n 2, 1) := by decide +kernel
theorem dX7_runs_100 : decode cX7_runs 100 = .ok (.ifCond .ne 9, 3) := by decide +kernel
theorem dX7_runs_103 : decode cX7_runs 103 = .ok (.iload 8, 2) := by decide +kernel
theorem dX7_runs_105 : decode cX7_runs 105 = .ok (.ineg, 1) := by decide +kernel
theorem dX7_runs_106 : decode cX7_runs 106 = .ok (.goto 5, 3) := by decide +kernel
theorem dX7_runs_109 : decode cX7_runs 109 = .ok (.iload 8, 2) := by decide +kernel
theorem dX7_runs_111 : decode cX7_runs 111 = .ok (.iastore, 1) := by decide +kernel
theorem dX7_runs_112 : decode cX7_runs 112 = .ok (.aload_n 0, 1) := by decide +kernel
theorem dX7_runs_113 : decode cX7_runs 113 = .ok (.getfield 7, 3) := by decide +kernel
theorem dX7_runs_116 : decode cX7_runs 116 = .ok (.sipush 3390, 3) := by decide +kernel
theorem dX7_runs_119 : decode cX7_runs 119 = .ok (.iload_n 1, 1) := by decide +kernel
theorem dX7_runs_120 : decode cX7_runs 120 = .ok (.iadd, 1) := by decide +kernel
theorem dX7_runs_121 : decode cX7_runs 121 = .ok (.dup2, 1) := by decide +kernel
theorem dX7_runs_122 : decode cX7_runs 122 = .ok (.iaload, 1) := by decide +kernel
theorem dX7_runs_123 : decode cX7_runs 123 = .ok (.iconst 1, 1) := by decide +kernel
theorem dX7_runs_124 : decode cX7_runs 124 = .ok (.iadd, 1) := by decide +kernel
theorem dX7_runs_125 : decode cX7_runs 125 = .ok (.iastore, 1) := by decide +kernel
theorem dX7_runs_126 : decode cX7_runs 126 = .ok (.iload 4, 2) := by decide +kernel
theorem dX7_runs_128 : decode cX7_runs 128 = .ok (.iload 7, 2) := by decide +kernel
theorem dX7_runs_130 : decode cX7_runs 130 = .ok (.ifCond .le 7, 3) := by decide +kernel
theorem dX7_runs_133 : decode cX7_runs 133 = .ok (.iconst 1, 1) := by decide +kernel
theorem dX7_runs_134 : decode cX7_runs 134 = .ok (.goto 4, 3) := by decide +kernel
theorem dX7_runs_137 : decode cX7_runs 137 = .ok (.iconst 0, 1) := by decide +kernel
theorem dX7_runs_138 : decode cX7_runs 138 = .ok (.iadd, 1) := by decide +kernel
theorem dX7_runs_139 : decode cX7_runs 139 = .ok (.istore 4, 2) := by decide +kernel
theorem dX7_runs_141 : decode cX7_runs 141 = .ok (.iload 6, 2) := by decide +kernel
theorem dX7_runs_143 : decode cX7_runs 143 = .ok (.iload 7, 2) := by decide +kernel
theorem dX7_runs_145 : decode cX7_runs 145 = .ok (.iconst 1, 1) := by decide +kernel
theorem dX7_runs_146 : decode cX7_runs 146 = .ok (.iadd, 1) := by decide +kernel
theorem dX7_runs_147 : decode cX7_runs 147 = .ok (.iadd, 1) := by decide +kernel
theorem dX7_runs_148 : decode cX7_runs 148 = .ok (.istore 6, 2) := by decide +kernel
theorem dX7_runs_150 : decode cX7_runs 150 = .ok (.goto (-132), 3) := by decide +kernel
theorem dX7_runs_153 : decode cX7_runs 153 = .ok (.iload 4, 2) := by decide +kernel
theorem dX7_runs_155 : decode cX7_runs 155 = .ok (.ireturn, 1) := by decide +kernel
theorem dX7_commits_0 : decode cX7_commits 0 = .ok (.iconst 0, 1) := by decide +kernel
theorem dX7_commits_1 : decode cX7_commits 1 = .ok (.istore_n 1, 1) := by decide +kernel
theorem dX7_commits_2 : decode cX7_commits 2 = .ok (.iload_n 1, 1) := by decide +kernel
theorem dX7_commits_3 : decode cX7_commits 3 = .ok (.iconst 4, 1) := by decide +kernel
theorem dX7_commits_4 : decode cX7_commits 4 = .ok (.if_icmp .ge 96, 3) := by decide +kernel
theorem dX7_commits_7 : decode cX7_commits 7 = .ok (.aload_n 0, 1) := by decide +kernel
theorem dX7_commits_8 : decode cX7_commits 8 = .ok (.iload_n 1, 1) := by decide +kernel
theorem dX7_commits_9 : decode cX7_commits 9 = .ok (.iconst 1, 1) := by decide +kernel
theorem dX7_commits_10 : decode cX7_commits 10 = .ok (.iconst 1, 1) := by decide +kernel
theorem dX7_commits_11 : decode cX7_commits 11 = .ok (.invokevirtual 76, 3) := by decide +kernel
theorem dX7_commits_14 : decode cX7_commits 14 = .ok (.istore_n 2, 1) := by decide +kernel
theorem dX7_commits_15 : decode cX7_commits 15 = .ok (.iload_n 2, 1) := by decide +kernel
theorem dX7_commits_16 : decode cX7_commits 16 = .ok (.aload_n 0, 1) := by decide +kernel
theorem dX7_commits_17 : decode cX7_commits 17 = .ok (.iload_n 1, 1) := by decide +kernel
theorem dX7_commits_18 : decode cX7_commits 18 = .ok (.iconst 0, 1) := by decide +kernel
theorem dX7_commits_19 : decode cX7_commits 19 = .ok (.iconst 1, 1) := by decide +kernel
theorem dX7_commits_20 : decode cX7_commits 20 = .ok (.invokevirtual 76, 3) := by decide +kernel
theorem dX7_commits_23 : decode cX7_commits 23 = .ok (.iadd, 1) := by decide +kernel
theorem dX7_commits_24 : decode cX7_commits 24 = .ok (.istore_n 2, 1) := by decide +kernel
theorem dX7_commits_25 : decode cX7_commits 25 = .ok (.iload_n 2, 1) := by decide +kernel
theorem dX7_commits_26 : decode cX7_commits 26 = .ok (.ifCond .lt 31, 3) := by decide +kernel
theorem dX7_commits_29 : decode cX7_commits 29 = .ok (.aload_n 0, 1) := by decide +kernel
theorem dX7_commits_30 : decode cX7_commits 30 = .ok (.getfield 7, 3) := by decide +kernel
theorem dX7_commits_33 : decode cX7_commits 33 = .ok (.sipush 3390, 3) := by decide +kernel
theorem dX7_commits_36 : decode cX7_commits 36 = .ok (.iload_n 1, 1) := by decide +kernel
theorem dX7_commits_37 : decode cX7_commits 37 = .ok (.iadd, 1) := by decide +kernel
theorem dX7_commits_38 : decode cX7_commits 38 = .ok (.iaload, 1) := by decide +kernel
theorem dX7_commits_39 : decode cX7_commits 39 = .ok (.iconst 2, 1) := by decide +kernel
theorem dX7_commits_40 : decode cX7_commits 40 = .ok (.aload_n 0, 1) := by decide +kernel
theorem dX7_commits_41 : decode cX7_commits 41 = .ok (.iload_n 1, 1) := by decide +kernel
theorem dX7_commits_42 : decode cX7_commits 42 = .ok (.iconst 2, 1) := by decide +kernel
theorem dX7_commits_43 : decode cX7_commits 43 = .ok (.iconst 0, 1) := by decide +kernel
theorem dX7_commits_44 : decode cX7_commits 44 = .ok (.invokevirtual 76, 3) := by decide +kernel
theorem dX7_commits_47 : decode cX7_commits 47 = .ok (.imul, 1) := by decide +kernel
theorem dX7_commits_48 : decode cX7_commits 48 = .ok (.iconst 2, 1) := by decide +kernel
theorem dX7_commits_49 : decode cX7_commits 49 = .ok (.iadd, 1) := by decide +kernel
theorem dX7_commits_50 : decode cX7_commits 50 = .ok (.if_icmp .le 7, 3) := by decide +kernel
theorem dX7_commits_53 : decode cX7_commits 53 = .ok (.iconst 1, 1) := by decide +kernel
theorem dX7_commits_54 : decode cX7_commits 54 = .ok (.goto 4, 3) := by decide +kernel
theorem dX7_commits_57 : decode cX7_commits 57 = .ok (.iconst 0, 1) := by decide +kernel
theorem dX7_commits_58 : decode cX7_commits 58 = .ok (.istore_n 3, 1) := by decide +kernel
theorem dX7_commits_59 : decode cX7_commits 59 = .ok (.iload_n 3, 1) := by decide +kernel
theorem dX7_commits_60 : decode cX7_commits 60 = .ok (.ifCond .eq 34, 3) := by decide +kernel
theorem dX7_commits_63 : decode cX7_commits 63 = .ok (.aload_n 0, 1) := by decide +kernel
theorem dX7_commits_64 : decode cX7_commits 64 = .ok (.getfield 7, 3) := by decide +kernel
theorem dX7_commits_67 : decode cX7_commits 67 = .ok (.sipush 3390, 3) := by decide +kernel
theorem dX7_commits_70 : decode cX7_commits 70 = .ok (.iload_n 1, 1) := by decide +kernel
theorem dX7_commits_71 : decode cX7_commits 71 = .ok (.iadd, 1) := by decide +kernel
theorem dX7_commits_72 : decode cX7_commits 72 = .ok (.iconst 0, 1) := by decide +kernel
theorem dX7_commits_73 : decode cX7_commits 73 = .ok (.iastore, 1) := by decide +kernel
theorem dX7_commits_74 : decode cX7_commits 74 = .ok (.aload_n 0, 1) := by decide +kernel
theorem dX7_commits_75 : decode cX7_commits 75 = .ok (.iload_n 1, 1) := by decide +kernel
theorem dX7_commits_76 : decode cX7_commits 76 = .ok (.iconst 2, 1) := by decide +kernel
theorem dX7_commits_77 : decode cX7_commits 77 = .ok (.iconst 1, 1) := by decide +kernel
theorem dX7_commits_78 : decode cX7_commits 78 = .ok (.invokevirtual 76, 3) := by decide +kernel
theorem dX7_commits_81 : decode cX7_commits 81 = .ok (.istore_n 2, 1) := by decide +kernel
theorem dX7_commits_82 : decode cX7_commits 82 = .ok (.aload_n 0, 1) := by decide +kernel
theorem dX7_commits_83 : decode cX7_commits 83 = .ok (.getfield 7, 3) := by decide +kernel
theorem dX7_commits_86 : decode cX7_commits 86 = .ok (.sipush 3396, 3) := by decide +kernel
theorem dX7_commits_89 : decode cX7_commits 89 = .ok (.dup2, 1) := by decide +kernel
theorem dX7_commits_90 : decode cX7_commits 90 = .ok (.iaload, 1) := by decide +kernel
theorem dX7_commits_91 : decode cX7_commits 91 = .ok (.iconst 1, 1) := by decide +kernel
theorem dX7_commits_92 : decode cX7_commits 92 = .ok (.iadd, 1) := by decide +kernel
theorem dX7_commits_93 : decode cX7_commits 93 = .ok (.iastore, 1) := by decide +kernel
theorem dX7_commits_94 : decode cX7_commits 94 = .ok (.iinc 1 1, 3) := by decide +kernel
theorem dX7_commits_97 : decode cX7_commits 97 = .ok (.goto (-95), 3) := by decide +kernel
theorem dX7_commits_100 : decode cX7_commits 100 = .ok (.iconst 0, 1) := by decide +kernel
theorem dX7_commits_101 : decode cX7_commits 101 = .ok (.istore_n 1, 1) := by decide +kernel
theorem dX7_commits_102 : decode cX7_commits 102 = .ok (.iload_n 1, 1) := by decide +kernel
theorem dX7_commits_103 : decode cX7_commits 103 = .ok (.sipush 128, 3) := by decide +kernel
theorem dX7_commits_106 : decode cX7_commits 106 = .ok (.if_icmp .ge 43, 3) := by decide +kernel
theorem dX7_commits_109 : decode cX7_commits 109 = .ok (.aload_n 0, 1) := by decide +kernel
theorem dX7_commits_110 : decode cX7_commits 110 = .ok (.getfield 7, 3) := by decide +kernel
theorem dX7_commits_113 : decode cX7_commits 113 = .ok (.sipush 2686, 3) := by decide +kernel
theorem dX7_commits_116 : decode cX7_commits 116 = .ok (.iload_n 1, 1) := by decide +kernel
theorem dX7_commits_117 : decode cX7_commits 117 = .ok (.iadd, 1) := by decide +kernel
theorem dX7_commits_118 : decode cX7_commits 118 = .ok (.iconst 0, 1) := by decide +kernel
theorem dX7_commits_119 : decode cX7_commits 119 = .ok (.iastore, 1) := by decide +kernel
theorem dX7_commits_120 : decode cX7_commits 120 = .ok (.aload_n 0, 1) := by decide +kernel
theorem dX7_commits_121 : decode cX7_commits 121 = .ok (.getfield 7, 3) := by decide +kernel
theorem dX7_commits_124 : decode cX7_commits 124 = .ok (.sipush 2942, 3) := by decide +kernel
theorem dX7_commits_127 : decode cX7_commits 127 = .ok (.iload_n 1, 1) := by decide +kernel
theorem dX7_commits_128 : decode cX7_commits 128 = .ok (.iadd, 1) := by decide +kernel
theorem dX7_commits_129 : decode cX7_commits 129 = .ok (.aload_n 0, 1) := by decide +kernel
theorem dX7_commits_130 : decode cX7_commits 130 = .ok (.iload_n 1, 1) := by decide +kernel
theorem dX7_commits_131 : decode cX7_commits 131 = .ok (.invokevirtual 70, 3) := by decide +kernel
theorem dX7_commits_134 : decode cX7_commits 134 = .ok (.ifCond .eq 7, 3) := by decide +kernel
theorem dX7_commits_137 : decode cX7_commits 137 = .ok (.iconst 1, 1) := by decide +kernel
theorem dX7_commits_138 : decode cX7_commits 138 = .ok (.goto 4, 3) := by decide +kernel
theorem dX7_commits_141 : decode cX7_commits 141 = .ok (.iconst 0, 1) := by decide +kernel
theorem dX7_commits_142 : decode cX7_commits 142 = .ok (.iastore, 1) := by decide +kernel
theorem dX7_commits_143 : decode cX7_commits 143 = .ok (.iinc 1 1, 3) := by decide +kernel
theorem dX7_commits_146 : decode cX7_commits 146 = .ok (.goto (-44), 3) := by decide +kernel
theorem dX7_commits_149 : decode cX7_commits 149 = .ok (.aload_n 0, 1) := by decide +kernel
theorem dX7_commits_150 : decode cX7_commits 150 = .ok (.getfield 7, 3) := by decide +kernel
theorem dX7_commits_153 : decode cX7_commits 153 = .ok (.sipush 3395, 3) := by decide +kernel
theorem dX7_commits_156 : decode cX7_commits 156 = .ok (.dup2, 1) := by decide +kernel
theorem dX7_commits_157 : decode cX7_commits 157 = .ok (.iaload, 1) := by decide +kernel
theorem dX7_commits_158 : decode cX7_commits 158 = .ok (.iconst 1, 1) := by decide +kernel
theorem dX7_commits_159 : decode cX7_commits 159 = .ok (.iadd, 1) := by decide +kernel
theorem dX7_commits_160 : decode cX7_commits 160 = .ok (.iastore, 1) := by decide +kernel
theorem dX7_commits_161 : decode cX7_commits 161 = .ok (.iconst 0, 1) := by decide +kernel
theorem dX7_commits_162 : decode cX7_commits 162 = .ok (.istore_n 1, 1) := by decide +kernel
theorem dX7_commits_163 : decode cX7_commits 163 = .ok (.iload_n 1, 1) := by decide +kernel
theorem dX7_commits_164 : decode cX7_commits 164 = .ok (.sipush 3397, 3) := by decide +kernel
theorem dX7_commits_167 : decode cX7_commits 167 = .ok (.if_icmp .ge 21, 3) := by decide +kernel
theorem dX7_commits_170 : decode cX7_commits 170 = .ok (.aload_n 0, 1) := by decide +kernel
theorem dX7_commits_171 : decode cX7_commits 171 = .ok (.getfield 13, 3) := by decide +kernel
theorem dX7_commits_174 : decode cX7_commits 174 = .ok (.iload_n 1, 1) := by decide +kernel
theorem dX7_commits_175 : decode cX7_commits 175 = .ok (.aload_n 0, 1) := by decide +kernel
theorem dX7_commits_176 : decode cX7_commits 176 = .ok (.getfield 7, 3) := by decide +kernel
theorem dX7_commits_179 : decode cX7_commits 179 = .ok (.iload_n 1, 1) := by decide +kernel
theorem dX7_commits_180 : decode cX7_commits 180 = .ok (.iaload, 1) := by decide +kernel
theorem dX7_commits_181 : decode cX7_commits 181 = .ok (.iastore, 1) := by decide +kernel
theorem dX7_commits_182 : decode cX7_commits 182 = .ok (.iinc 1 1, 3) := by decide +kernel
theorem dX7_commits_185 : decode cX7_commits 185 = .ok (.goto (-22), 3) := by decide +kernel
theorem dX7_commits_188 : decode cX7_commits 188 = .ok (.aload_n 0, 1) := by decide +kernel
theorem dX7_commits_189 : decode cX7_commits 189 = .ok (.getfield 7, 3) := by decide +kernel
theorem dX7_commits_192 : decode cX7_commits 192 = .ok (.sipush 3395, 3) := by decide +kernel
theorem dX7_commits_195 : decode cX7_commits 195 = .ok (.iaload, 1) := by decide +kernel
theorem dX7_commits_196 : decode cX7_commits 196 = .ok (.iconst 1, 1) := by decide +kernel
theorem dX7_commits_197 : decode cX7_commits 197 = .ok (.isub, 1) := by decide +kernel
theorem dX7_commits_198 : decode cX7_commits 198 = .ok (.ireturn, 1) := by decide +kernel
theorem dX7_commit_0 : decode cX7_commit 0 = .ok (.aload_n 0, 1) := by decide +kernel
theorem dX7_commit_1 : decode cX7_commit 1 = .ok (.iconst 0, 1) := by decide +kernel
theorem dX7_commit_2 : decode cX7_commit 2 = .ok (.putfield 22, 3) := by decide +kernel
theorem dX7_commit_5 : decode cX7_commit 5 = .ok (.aload_n 0, 1) := by decide +kernel
theorem dX7_commit_6 : decode cX7_commit 6 = .ok (.invokevirtual 80, 3) := by decide +kernel
theorem dX7_commit_9 : decode cX7_commit 9 = .ok (.ireturn, 1) := by decide +kernel
theorem dX7_crash_0 : decode cX7_crash 0 = .ok (.aload_n 0, 1) := by decide +kernel
theorem dX7_crash_1 : decode cX7_crash 1 = .ok (.iconst 0, 1) := by decide +kernel
theorem dX7_crash_2 : decode cX7_crash 2 = .ok (.putfield 22, 3) := by decide +kernel
theorem dX7_crash_5 : decode cX7_crash 5 = .ok (.iconst 0, 1) := by decide +kernel
theorem dX7_crash_6 : decode cX7_crash 6 = .ok (.istore_n 1, 1) := by decide +kernel
theorem dX7_crash_7 : decode cX7_crash 7 = .ok (.iload_n 1, 1) := by decide +kernel
theorem dX7_crash_8 : decode cX7_crash 8 = .ok (.sipush 3397, 3) := by decide +kernel
theorem dX7_crash_11 : decode cX7_crash 11 = .ok (.if_icmp .ge 21, 3) := by decide +kernel
theorem dX7_crash_14 : decode cX7_crash 14 = .ok (.aload_n 0, 1) := by decide +kernel
theorem dX7_crash_15 : decode cX7_crash 15 = .ok (.getfield 7, 3) := by decide +kernel
theorem dX7_crash_18 : decode cX7_crash 18 = .ok (.iload_n 1, 1) := by decide +kernel
theorem dX7_crash_19 : decode cX7_crash 19 = .ok (.aload_n 0, 1) := by decide +kernel
theorem dX7_crash_20 : decode cX7_crash 20 = .ok (.getfield 13, 3) := by decide +kernel
theorem dX7_crash_23 : decode cX7_crash 23 = .ok (.iload_n 1, 1) := by decide +kernel
theorem dX7_crash_24 : decode cX7_crash 24 = .ok (.iaload, 1) := by decide +kernel
theorem dX7_crash_25 : decode cX7_crash 25 = .ok (.iastore, 1) := by decide +kernel
theorem dX7_crash_26 : decode cX7_crash 26 = .ok (.iinc 1 1, 3) := by decide +kernel
theorem dX7_crash_29 : decode cX7_crash 29 = .ok (.goto (-22), 3) := by decide +kernel
theorem dX7_crash_32 : decode cX7_crash 32 = .ok (.aload_n 0, 1) := by decide +kernel
theorem dX7_crash_33 : decode cX7_crash 33 = .ok (.getfield 7, 3) := by decide +kernel
theorem dX7_crash_36 : decode cX7_crash 36 = .ok (.sipush 3395, 3) := by decide +kernel
theorem dX7_crash_39 : decode cX7_crash 39 = .ok (.iaload, 1) := by decide +kernel
theorem dX7_crash_40 : decode cX7_crash 40 = .ok (.ireturn, 1) := by decide +kernel
theorem dX7_transaction_0 : decode cX7_transaction 0 = .ok (.aload_n 0, 1) := by decide +kernel
theorem dX7_transaction_1 : decode cX7_transaction 1 = .ok (.iconst 0, 1) := by decide +kernel
theorem dX7_transaction_2 : decode cX7_transaction 2 = .ok (.putfield 22, 3) := by decide +kernel
theorem dX7_transaction_5 : decode cX7_transaction 5 = .ok (.aload_n 0, 1) := by decide +kernel
theorem dX7_transaction_6 : decode cX7_transaction 6 = .ok (.getfield 7, 3) := by decide +kernel
theorem dX7_transaction_9 : decode cX7_transaction 9 = .ok (.sipush 3395, 3) := by decide +kernel
theorem dX7_transaction_12 : decode cX7_transaction 12 = .ok (.iaload, 1) := by decide +kernel
theorem dX7_transaction_13 : decode cX7_transaction 13 = .ok (.ireturn, 1) := by decide +kernel
theorem dX7_snapshot_0 : decode cX7_snapshot 0 = .ok (.iconst (-1), 1) := by decide +kernel
theorem dX7_snapshot_1 : decode cX7_snapshot 1 = .ok (.istore_n 2, 1) := by decide +kernel
theorem dX7_snapshot_2 : decode cX7_snapshot 2 = .ok (.bipush 11, 2) := by decide +kernel
theorem dX7_snapshot_4 : decode cX7_snapshot 4 = .ok (.istore_n 3, 1) := by decide +kernel
theorem dX7_snapshot_5 : decode cX7_snapshot 5 = .ok (.iload_n 3, 1) := by decide +kernel
theorem dX7_snapshot_6 : decode cX7_snapshot 6 = .ok (.ifCond .lt 28, 3) := by decide +kernel
theorem dX7_snapshot_9 : decode cX7_snapshot 9 = .ok (.aload_n 0, 1) := by decide +kernel
