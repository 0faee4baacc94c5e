theorem dX5_take_16 : decode cX5_take 16 = .ok (.getfield 40, 3) := by decide +kernel
theorem dX5_take_19 : decode cX5_take 19 = .ok (.putfield 71, 3) := by decide +kernel
theorem dX5_take_22 : decode cX5_take 22 = .ok (.aload_n 1, 1) := by decide +kernel
theorem dX5_take_23 : decode cX5_take 23 = .ok (.aload_n 0, 1) := by decide +kernel
theorem dX5_take_24 : decode cX5_take 24 = .ok (.getfield 36, 3) := by decide +kernel
theorem dX5_take_27 : decode cX5_take 27 = .ok (.putfield 118, 3) := by decide +kernel
theorem dX5_take_30 : decode cX5_take 30 = .ok (.aload_n 1, 1) := by decide +kernel
theorem dX5_take_31 : decode cX5_take 31 = .ok (.iconst 1, 1) := by decide +kernel
theorem dX5_take_32 : decode cX5_take 32 = .ok (.putfield 70, 3) := by decide +kernel
theorem dX5_take_35 : decode cX5_take 35 = .ok (.aload_n 0, 1) := by decide +kernel
theorem dX5_take_36 : decode cX5_take 36 = .ok (.aload_n 1, 1) := by decide +kernel
theorem dX5_take_37 : decode cX5_take 37 = .ok (.getfield 121, 3) := by decide +kernel
theorem dX5_take_40 : decode cX5_take 40 = .ok (.aload_n 2, 1) := by decide +kernel
theorem dX5_take_41 : decode cX5_take 41 = .ok (.getfield 125, 3) := by decide +kernel
theorem dX5_take_44 : decode cX5_take 44 = .ok (.invokevirtual 126, 3) := by decide +kernel
theorem dX5_take_47 : decode cX5_take 47 = .ok (.aload_n 0, 1) := by decide +kernel
theorem dX5_take_48 : decode cX5_take 48 = .ok (.dup, 1) := by decide +kernel
theorem dX5_take_49 : decode cX5_take 49 = .ok (.getfield 40, 3) := by decide +kernel
theorem dX5_take_52 : decode cX5_take 52 = .ok (.iconst 1, 1) := by decide +kernel
theorem dX5_take_53 : decode cX5_take 53 = .ok (.iadd, 1) := by decide +kernel
theorem dX5_take_54 : decode cX5_take 54 = .ok (.putfield 40, 3) := by decide +kernel
theorem dX5_take_57 : decode cX5_take 57 = .ok (.return_, 1) := by decide +kernel
theorem dX5_branch_0 : decode cX5_branch 0 = .ok (.iload_n 1, 1) := by decide +kernel
theorem dX5_branch_1 : decode cX5_branch 1 = .ok (.ifCond .lt 52, 3) := by decide +kernel
theorem dX5_branch_4 : decode cX5_branch 4 = .ok (.iload_n 1, 1) := by decide +kernel
theorem dX5_branch_5 : decode cX5_branch 5 = .ok (.aload_n 0, 1) := by decide +kernel
theorem dX5_branch_6 : decode cX5_branch 6 = .ok (.getfield 11, 3) := by decide +kernel
theorem dX5_branch_9 : decode cX5_branch 9 = .ok (.arraylength, 1) := by decide +kernel
theorem dX5_branch_10 : decode cX5_branch 10 = .ok (.if_icmp .ge 43, 3) := by decide +kernel
theorem dX5_branch_13 : decode cX5_branch 13 = .ok (.aload_n 0, 1) := by decide +kernel
theorem dX5_branch_14 : decode cX5_branch 14 = .ok (.getfield 11, 3) := by decide +kernel
theorem dX5_branch_17 : decode cX5_branch 17 = .ok (.iload_n 1, 1) := by decide +kernel
theorem dX5_branch_18 : decode cX5_branch 18 = .ok (.aaload, 1) := by decide +kernel
theorem dX5_branch_19 : decode cX5_branch 19 = .ok (.iconst 1, 1) := by decide +kernel
theorem dX5_branch_20 : decode cX5_branch 20 = .ok (.putfield 66, 3) := by decide +kernel
theorem dX5_branch_23 : decode cX5_branch 23 = .ok (.aload_n 0, 1) := by decide +kernel
theorem dX5_branch_24 : decode cX5_branch 24 = .ok (.getfield 11, 3) := by decide +kernel
theorem dX5_branch_27 : decode cX5_branch 27 = .ok (.iload_n 1, 1) := by decide +kernel
theorem dX5_branch_28 : decode cX5_branch 28 = .ok (.aaload, 1) := by decide +kernel
theorem dX5_branch_29 : decode cX5_branch 29 = .ok (.aload_n 2, 1) := by decide +kernel
theorem dX5_branch_30 : decode cX5_branch 30 = .ok (.getfield 71, 3) := by decide +kernel
theorem dX5_branch_33 : decode cX5_branch 33 = .ok (.putfield 79, 3) := by decide +kernel
theorem dX5_branch_36 : decode cX5_branch 36 = .ok (.aload_n 0, 1) := by decide +kernel
theorem dX5_branch_37 : decode cX5_branch 37 = .ok (.aload_n 0, 1) := by decide +kernel
theorem dX5_branch_38 : decode cX5_branch 38 = .ok (.getfield 11, 3) := by decide +kernel
theorem dX5_branch_41 : decode cX5_branch 41 = .ok (.iload_n 1, 1) := by decide +kernel
theorem dX5_branch_42 : decode cX5_branch 42 = .ok (.aaload, 1) := by decide +kernel
theorem dX5_branch_43 : decode cX5_branch 43 = .ok (.getfield 125, 3) := by decide +kernel
theorem dX5_branch_46 : decode cX5_branch 46 = .ok (.aload_n 2, 1) := by decide +kernel
theorem dX5_branch_47 : decode cX5_branch 47 = .ok (.getfield 121, 3) := by decide +kernel
theorem dX5_branch_50 : decode cX5_branch 50 = .ok (.invokevirtual 126, 3) := by decide +kernel
theorem dX5_branch_53 : decode cX5_branch 53 = .ok (.return_, 1) := by decide +kernel
theorem dX5_drop_0 : decode cX5_drop 0 = .ok (.iconst 0, 1) := by decide +kernel
theorem dX5_drop_1 : decode cX5_drop 1 = .ok (.istore_n 2, 1) := by decide +kernel
theorem dX5_drop_2 : decode cX5_drop 2 = .ok (.iload_n 2, 1) := by decide +kernel
theorem dX5_drop_3 : decode cX5_drop 3 = .ok (.bipush 12, 2) := by decide +kernel
theorem dX5_drop_5 : decode cX5_drop 5 = .ok (.if_icmp .ge 38, 3) := by decide +kernel
theorem dX5_drop_8 : decode cX5_drop 8 = .ok (.aload_n 0, 1) := by decide +kernel
theorem dX5_drop_9 : decode cX5_drop 9 = .ok (.aload_n 0, 1) := by decide +kernel
theorem dX5_drop_10 : decode cX5_drop 10 = .ok (.getfield 19, 3) := by decide +kernel
theorem dX5_drop_13 : decode cX5_drop 13 = .ok (.iload_n 2, 1) := by decide +kernel
theorem dX5_drop_14 : decode cX5_drop 14 = .ok (.aaload, 1) := by decide +kernel
theorem dX5_drop_15 : decode cX5_drop 15 = .ok (.aload_n 1, 1) := by decide +kernel
theorem dX5_drop_16 : decode cX5_drop 16 = .ok (.invokevirtual 82, 3) := by decide +kernel
theorem dX5_drop_19 : decode cX5_drop 19 = .ok (.ifCond .eq 18, 3) := by decide +kernel
theorem dX5_drop_22 : decode cX5_drop 22 = .ok (.aload_n 0, 1) := by decide +kernel
theorem dX5_drop_23 : decode cX5_drop 23 = .ok (.getfield 19, 3) := by decide +kernel
theorem dX5_drop_26 : decode cX5_drop 26 = .ok (.iload_n 2, 1) := by decide +kernel
theorem dX5_drop_27 : decode cX5_drop 27 = .ok (.aaload, 1) := by decide +kernel
theorem dX5_drop_28 : decode cX5_drop 28 = .ok (.dup, 1) := by decide +kernel
theorem dX5_drop_29 : decode cX5_drop 29 = .ok (.getfield 76, 3) := by decide +kernel
theorem dX5_drop_32 : decode cX5_drop 32 = .ok (.iconst 1, 1) := by decide +kernel
theorem dX5_drop_33 : decode cX5_drop 33 = .ok (.isub, 1) := by decide +kernel
theorem dX5_drop_34 : decode cX5_drop 34 = .ok (.putfield 76, 3) := by decide +kernel
theorem dX5_drop_37 : decode cX5_drop 37 = .ok (.iinc 2 1, 3) := by decide +kernel
theorem dX5_drop_40 : decode cX5_drop 40 = .ok (.goto (-38), 3) := by decide +kernel
theorem dX5_drop_43 : decode cX5_drop 43 = .ok (.aload_n 0, 1) := by decide +kernel
theorem dX5_drop_44 : decode cX5_drop 44 = .ok (.aload_n 1, 1) := by decide +kernel
theorem dX5_drop_45 : decode cX5_drop 45 = .ok (.getfield 121, 3) := by decide +kernel
theorem dX5_drop_48 : decode cX5_drop 48 = .ok (.invokevirtual 130, 3) := by decide +kernel
theorem dX5_drop_51 : decode cX5_drop 51 = .ok (.aload_n 1, 1) := by decide +kernel
theorem dX5_drop_52 : decode cX5_drop 52 = .ok (.iconst 0, 1) := by decide +kernel
theorem dX5_drop_53 : decode cX5_drop 53 = .ok (.putfield 70, 3) := by decide +kernel
theorem dX5_drop_56 : decode cX5_drop 56 = .ok (.return_, 1) := by decide +kernel
theorem dX5_dropBehind_0 : decode cX5_dropBehind 0 = .ok (.iconst 0, 1) := by decide +kernel
theorem dX5_dropBehind_1 : decode cX5_dropBehind 1 = .ok (.istore_n 2, 1) := by decide +kernel
theorem dX5_dropBehind_2 : decode cX5_dropBehind 2 = .ok (.iconst 0, 1) := by decide +kernel
theorem dX5_dropBehind_3 : decode cX5_dropBehind 3 = .ok (.istore_n 3, 1) := by decide +kernel
theorem dX5_dropBehind_4 : decode cX5_dropBehind 4 = .ok (.iload_n 3, 1) := by decide +kernel
theorem dX5_dropBehind_5 : decode cX5_dropBehind 5 = .ok (.bipush 12, 2) := by decide +kernel
theorem dX5_dropBehind_7 : decode cX5_dropBehind 7 = .ok (.if_icmp .ge 36, 3) := by decide +kernel
theorem dX5_dropBehind_10 : decode cX5_dropBehind 10 = .ok (.aload_n 0, 1) := by decide +kernel
theorem dX5_dropBehind_11 : decode cX5_dropBehind 11 = .ok (.aload_n 0, 1) := by decide +kernel
theorem dX5_dropBehind_12 : decode cX5_dropBehind 12 = .ok (.getfield 19, 3) := by decide +kernel
theorem dX5_dropBehind_15 : decode cX5_dropBehind 15 = .ok (.iload_n 3, 1) := by decide +kernel
theorem dX5_dropBehind_16 : decode cX5_dropBehind 16 = .ok (.aaload, 1) := by decide +kernel
theorem dX5_dropBehind_17 : decode cX5_dropBehind 17 = .ok (.aload_n 1, 1) := by decide +kernel
theorem dX5_dropBehind_18 : decode cX5_dropBehind 18 = .ok (.invokevirtual 82, 3) := by decide +kernel
theorem dX5_dropBehind_21 : decode cX5_dropBehind 21 = .ok (.ifCond .eq 16, 3) := by decide +kernel
theorem dX5_dropBehind_24 : decode cX5_dropBehind 24 = .ok (.aload_n 0, 1) := by decide +kernel
theorem dX5_dropBehind_25 : decode cX5_dropBehind 25 = .ok (.aload_n 0, 1) := by decide +kernel
theorem dX5_dropBehind_26 : decode cX5_dropBehind 26 = .ok (.getfield 19, 3) := by decide +kernel
theorem dX5_dropBehind_29 : decode cX5_dropBehind 29 = .ok (.iload_n 3, 1) := by decide +kernel
theorem dX5_dropBehind_30 : decode cX5_dropBehind 30 = .ok (.aaload, 1) := by decide +kernel
theorem dX5_dropBehind_31 : decode cX5_dropBehind 31 = .ok (.invokevirtual 134, 3) := by decide +kernel
theorem dX5_dropBehind_34 : decode cX5_dropBehind 34 = .ok (.iinc 2 1, 3) := by decide +kernel
theorem dX5_dropBehind_37 : decode cX5_dropBehind 37 = .ok (.iinc 3 1, 3) := by decide +kernel
theorem dX5_dropBehind_40 : decode cX5_dropBehind 40 = .ok (.goto (-36), 3) := by decide +kernel
theorem dX5_dropBehind_43 : decode cX5_dropBehind 43 = .ok (.iload_n 2, 1) := by decide +kernel
theorem dX5_dropBehind_44 : decode cX5_dropBehind 44 = .ok (.ireturn, 1) := by decide +kernel
theorem dX5_handOver_0 : decode cX5_handOver 0 = .ok (.aload_n 1, 1) := by decide +kernel
theorem dX5_handOver_1 : decode cX5_handOver 1 = .ok (.getfield 89, 3) := by decide +kernel
theorem dX5_handOver_4 : decode cX5_handOver 4 = .ok (.istore_n 3, 1) := by decide +kernel
theorem dX5_handOver_5 : decode cX5_handOver 5 = .ok (.aload_n 1, 1) := by decide +kernel
theorem dX5_handOver_6 : decode cX5_handOver 6 = .ok (.getfield 76, 3) := by decide +kernel
theorem dX5_handOver_9 : decode cX5_handOver 9 = .ok (.iconst 1, 1) := by decide +kernel
theorem dX5_handOver_10 : decode cX5_handOver 10 = .ok (.iadd, 1) := by decide +kernel
theorem dX5_handOver_11 : decode cX5_handOver 11 = .ok (.istore 4, 2) := by decide +kernel
theorem dX5_handOver_13 : decode cX5_handOver 13 = .ok (.iconst 0, 1) := by decide +kernel
theorem dX5_handOver_14 : decode cX5_handOver 14 = .ok (.istore 5, 2) := by decide +kernel
theorem dX5_handOver_16 : decode cX5_handOver 16 = .ok (.iload 5, 2) := by decide +kernel
theorem dX5_handOver_18 : decode cX5_handOver 18 = .ok (.bipush 12, 2) := by decide +kernel
theorem dX5_handOver_20 : decode cX5_handOver 20 = .ok (.if_icmp .ge 117, 3) := by decide +kernel
theorem dX5_handOver_23 : decode cX5_handOver 23 = .ok (.aload_n 0, 1) := by decide +kernel
theorem dX5_handOver_24 : decode cX5_handOver 24 = .ok (.getfield 19, 3) := by decide +kernel
theorem dX5_handOver_27 : decode cX5_handOver 27 = .ok (.iload 5, 2) := by decide +kernel
theorem dX5_handOver_29 : decode cX5_handOver 29 = .ok (.aaload, 1) := by decide +kernel
theorem dX5_handOver_30 : decode cX5_handOver 30 = .ok (.iload_n 2, 1) := by decide +kernel
theorem dX5_handOver_31 : decode cX5_handOver 31 = .ok (.invokevirtual 72, 3) := by decide +kernel
theorem dX5_handOver_34 : decode cX5_handOver 34 = .ok (.ifCond .eq 23, 3) := by decide +kernel
theorem dX5_handOver_37 : decode cX5_handOver 37 = .ok (.aload_n 0, 1) := by decide +kernel
theorem dX5_handOver_38 : decode cX5_handOver 38 = .ok (.getfield 19, 3) := by decide +kernel
theorem dX5_handOver_41 : decode cX5_handOver 41 = .ok (.iload 5, 2) := by decide +kernel
theorem dX5_handOver_43 : decode cX5_handOver 43 = .ok (.aaload, 1) := by decide +kernel
theorem dX5_handOver_44 : decode cX5_handOver 44 = .ok (.dup, 1) := by decide +kernel
theorem dX5_handOver_45 : decode cX5_handOver 45 = .ok (.getfield 76, 3) := by decide +kernel
theorem dX5_handOver_48 : decode cX5_handOver 48 = .ok (.iload 4, 2) := by decide +kernel
theorem dX5_handOver_50 : decode cX5_handOver 50 = .ok (.iadd, 1) := by decide +kernel
theorem dX5_handOver_51 : decode cX5_handOver 51 = .ok (.putfield 76, 3) := by decide +kernel
theorem dX5_handOver_54 : decode cX5_handOver 54 = .ok (.goto 77, 3) := by decide +kernel
theorem dX5_handOver_57 : decode cX5_handOver 57 = .ok (.aload_n 0, 1) := by decide +kernel
theorem dX5_handOver_58 : decode cX5_handOver 58 = .ok (.getfield 19, 3) := by decide +kernel
theorem dX5_handOver_61 : decode cX5_handOver 61 = .ok (.iload 5, 2) := by decide +kernel
theorem dX5_handOver_63 : decode cX5_handOver 63 = .ok (.aaload, 1) := by decide +kernel
theorem dX5_handOver_64 : decode cX5_handOver 64 = .ok (.iload_n 3, 1) := by decide +kernel
theorem dX5_handOver_65 : decode cX5_handOver 65 = .ok (.invokevirtual 72, 3) := by decide +kernel
theorem dX5_handOver_68 : decode cX5_handOver 68 = .ok (.ifCond .eq 32, 3) := by decide +kernel
theorem dX5_handOver_71 : decode cX5_handOver 71 = .ok (.aload_n 0, 1) := by decide +kernel
theorem dX5_handOver_72 : decode cX5_handOver 72 = .ok (.getfield 19, 3) := by decide +kernel
theorem dX5_handOver_75 : decode cX5_handOver 75 = .ok (.iload 5, 2) := by decide +kernel
theorem dX5_handOver_77 : decode cX5_handOver 77 = .ok (.aaload, 1) := by decide +kernel
theorem dX5_handOver_78 : decode cX5_handOver 78 = .ok (.getfield 76, 3) := by decide +kernel
theorem dX5_handOver_81 : decode cX5_handOver 81 = .ok (.iload 4, 2) := by decide +kernel
theorem dX5_handOver_83 : decode cX5_handOver 83 = .ok (.if_icmp .ge 17, 3) := by decide +kernel
theorem dX5_handOver_86 : decode cX5_handOver 86 = .ok (.aload_n 0, 1) := by decide +kernel
theorem dX5_handOver_87 : decode cX5_handOver 87 = .ok (.getfield 19, 3) := by decide +kernel
theorem dX5_handOver_90 : decode cX5_handOver 90 = .ok (.iload 5, 2) := by decide +kernel
theorem dX5_handOver_92 : decode cX5_handOver 92 = .ok (.aaload, 1) := by decide +kernel
theorem dX5_handOver_93 : decode cX5_handOver 93 = .ok (.iload_n 2, 1) := by decide +kernel
theorem dX5_handOver_94 : decode cX5_handOver 94 = .ok (.putfield 89, 3) := by decide +kernel
theorem dX5_handOver_97 : decode cX5_handOver 97 = .ok (.goto 34, 3) := by decide +kernel
theorem dX5_handOver_100 : decode cX5_handOver 100 = .ok (.aload_n 0, 1) := by decide +kernel
theorem dX5_handOver_101 : decode cX5_handOver 101 = .ok (.getfield 19, 3) := by decide +kernel
theorem dX5_handOver_104 : decode cX5_handOver 104 = .ok (.iload 5, 2) := by decide +kernel
theorem dX5_handOver_106 : decode cX5_handOver 106 = .ok (.aaload, 1) := by decide +kernel
theorem dX5_handOver_107 : decode cX5_handOver 107 = .ok (.iload_n 3, 1) := by decide +kernel
theorem dX5_handOver_108 : decode cX5_handOver 108 = .ok (.invokevirtual 72, 3) := by decide +kernel
theorem dX5_handOver_111 : decode cX5_handOver 111 = .ok (.ifCond .eq 20, 3) := by decide +kernel
theorem dX5_handOver_114 : decode cX5_handOver 114 = .ok (.aload_n 0, 1) := by decide +kernel
theorem dX5_handOver_115 : decode cX5_handOver 115 = .ok (.getfield 19, 3) := by decide +kernel
theorem dX5_handOver_118 : decode cX5_handOver 118 = .ok (.iload 5, 2) := by decide +kernel
theorem dX5_handOver_120 : decode cX5_handOver 120 = .ok (.aaload, 1) := by decide +kernel
theorem dX5_handOver_121 : decode cX5_handOver 121 = .ok (.dup, 1) := by decide +kernel
theorem dX5_handOver_122 : decode cX5_handOver 122 = .ok (.getfield 76, 3) := by decide +kernel
theorem dX5_handOver_125 : decode cX5_handOver 125 = .ok (.iload 4, 2) := by decide +kernel
theorem dX5_handOver_127 : decode cX5_handOver 127 = .ok (.isub, 1) := by decide +kernel
theorem dX5_handOver_128 : decode cX5_handOver 128 = .ok (.putfield 76, 3) := by decide +kernel
theorem dX5_handOver_131 : decode cX5_handOver 131 = .ok (.iinc 5 1, 3) := by decide +kernel
theorem dX5_handOver_134 : decode cX5_handOver 134 = .ok (.goto (-118), 3) := by decide +kernel
theorem dX5_handOver_137 : decode cX5_handOver 137 = .ok (.return_, 1) := by decide +kernel
theorem dX6_init_0 : decode cX6_init 0 = .ok (.aload_n 0, 1) := by decide +kernel
theorem dX6_init_1 : decode cX6_init 1 = .ok (.invokespecial 3, 3) := by decide +kernel
theorem dX6_init_4 : decode cX6_init 4 = .ok (.aload_n 0, 1) := by decide +kernel
theorem dX6_init_5 : decode cX6_init 5 = .ok (.new 9, 3) := by decide +kernel
theorem dX6_init_8 : decode cX6_init 8 = .ok (.dup, 1) := by decide +kernel
theorem dX6_init_9 : decode cX6_init 9 = .ok (.invokespecial 11, 3) := by decide +kernel
theorem dX6_init_12 : decode cX6_init 12 = .ok (.putfield 12, 3) := by decide +kernel
theorem dX6_init_15 : decode cX6_init 15 = .ok (.aload_n 0, 1) := by decide +kernel
theorem dX6_init_16 : decode cX6_init 16 = .ok (.new 9, 3) := by decide +kernel
theorem dX6_init_19 : decode cX6_init 19 = .ok (.dup, 1) := by decide +kernel
theorem dX6_init_20 : decode cX6_init 20 = .ok (.invokespecial 11, 3) := by decide +kernel
theorem dX6_init_23 : decode cX6_init 23 = .ok (.putfield 16, 3) := by decide +kernel
theorem dX6_init_26 : decode cX6_init 26 = .ok (.aload_n 0, 1) := by decide +kernel
theorem dX6_init_27 : decode cX6_init 27 = .ok (.bipush 16, 2) := by decide +kernel
theorem dX6_init_29 : decode cX6_init 29 = .ok (.newarray .int, 2) := by decide +kernel
theorem dX6_init_31 : decode cX6_init 31 = .ok (.putfield 19, 3) := by decide +kernel
theorem dX6_init_34 : decode cX6_init 34 = .ok (.aload_n 0, 1) := by decide +kernel
theorem dX6_init_35 : decode cX6_init 35 = .ok (.sipush 128, 3) := by decide +kernel
theorem dX6_init_38 : decode cX6_init 38 = .ok (.newarray .int, 2) := by decide +kernel
theorem dX6_init_40 : decode cX6_init 40 = .ok (.putfield 23, 3) := by decide +kernel
theorem dX6_init_43 : decode cX6_init 43 = .ok (.return_, 1) := by decide +kernel
theorem dX6_write_0 : decode cX6_write 0 = .ok (.aload_n 0, 1) := by decide +kernel
theorem dX6_write_1 : decode cX6_write 1 = .ok (.iload_n 1, 1) := by decide +kernel
theorem dX6_write_2 : decode cX6_write 2 = .ok (.invokevirtual 26, 3) := by decide +kernel
theorem dX6_write_5 : decode cX6_write 5 = .ok (.getfield 30, 3) := by decide +kernel
theorem dX6_write_8 : decode cX6_write 8 = .ok (.astore 5, 2) := by decide +kernel
theorem dX6_write_10 : decode cX6_write 10 = .ok (.iload_n 2, 1) := by decide +kernel
theorem dX6_write_11 : decode cX6_write 11 = .ok (.iload_n 3, 1) := by decide +kernel
theorem dX6_write_12 : decode cX6_write 12 = .ok (.invokestatic 36, 3) := by decide +kernel
theorem dX6_write_15 : decode cX6_write 15 = .ok (.istore 6, 2) := by decide +kernel
theorem dX6_write_17 : decode cX6_write 17 = .ok (.aload 5, 2) := by decide +kernel
theorem dX6_write_19 : decode cX6_write 19 = .ok (.iload 6, 2) := by decide +kernel
theorem dX6_write_21 : decode cX6_write 21 = .ok (.invokevirtual 40, 3) := by decide +kernel
theorem dX6_write_24 : decode cX6_write 24 = .ok (.istore 7, 2) := by decide +kernel
theorem dX6_write_26 : decode cX6_write 26 = .ok (.aload_n 0, 1) := by decide +kernel
theorem dX6_write_27 : decode cX6_write 27 = .ok (.getfield 12, 3) := by decide +kernel
theorem dX6_write_30 : decode cX6_write 30 = .ok (.getfield 46, 3) := by decide +kernel
theorem dX6_write_33 : decode cX6_write 33 = .ok (.iload 7, 2) := by decide +kernel
theorem dX6_write_35 : decode cX6_write 35 = .ok (.aload_n 0, 1) := by decide +kernel
theorem dX6_write_36 : decode cX6_write 36 = .ok (.getfield 12, 3) := by decide +kernel
theorem dX6_write_39 : decode cX6_write 39 = .ok (.getfield 50, 3) := by decide +kernel
theorem dX6_write_42 : decode cX6_write 42 = .ok (.invokevirtual 54, 3) := by decide +kernel
theorem dX6_write_45 : decode cX6_write 45 = .ok (.ifCond .eq 36, 3) := by decide +kernel
theorem dX6_write_48 : decode cX6_write 48 = .ok (.aload_n 0, 1) := by decide +kernel
theorem dX6_write_49 : decode cX6_write 49 = .ok (.getfield 12, 3) := by decide +kernel
theorem dX6_write_52 : decode cX6_write 52 = .ok (.getfield 46, 3) := by decide +kernel
theorem dX6_write_55 : decode cX6_write 55 = .ok (.iload 7, 2) := by decide +kernel
theorem dX6_write_57 : decode cX6_write 57 = .ok (.invokevirtual 60, 3) := by decide +kernel
theorem dX6_write_60 : decode cX6_write 60 = .ok (.iconst 1, 1) := by decide +kernel
theorem dX6_write_61 : decode cX6_write 61 = .ok (.if_icmp .ne 20, 3) := by decide +kernel
theorem dX6_write_64 : decode cX6_write 64 = .ok (.aload_n 0, 1) := by decide +kernel
theorem dX6_write_65 : decode cX6_write 65 = .ok (.getfield 12, 3) := by decide +kernel
theorem dX6_write_68 : decode cX6_write 68 = .ok (.getfield 46, 3) := by decide +kernel
theorem dX6_write_71 : decode cX6_write 71 = .ok (.iload 7, 2) := by decide +kernel
theorem dX6_write_73 : decode cX6_write 73 = .ok (.iload 4, 2) := by decide +kernel
theorem dX6_write_75 : decode cX6_write 75 = .ok (.invokevirtual 63, 3) := by decide +kernel
theorem dX6_write_78 : decode cX6_write 78 = .ok (.iload 7, 2) := by decide +kernel
theorem dX6_write_80 : decode cX6_write 80 = .ok (.ireturn, 1) := by decide +kernel
theorem dX6_write_81 : decode cX6_write 81 = .ok (.aload_n 0, 1) := by decide +kernel
theorem dX6_write_82 : decode cX6_write 82 = .ok (.getfield 12, 3) := by decide +kernel
theorem dX6_write_85 : decode cX6_write 85 = .ok (.getfield 46, 3) := by decide +kernel
theorem dX6_write_88 : decode cX6_write 88 = .ok (.invokevirtual 67, 3) := by decide +kernel
theorem dX6_write_91 : decode cX6_write 91 = .ok (.istore 8, 2) := by decide +kernel
theorem dX6_write_93 : decode cX6_write 93 = .ok (.iload 8, 2) := by decide +kernel
theorem dX6_write_95 : decode cX6_write 95 = .ok (.iconst (-1), 1) := by decide +kernel
theorem dX6_write_96 : decode cX6_write 96 = .ok (.if_icmp .ne 13, 3) := by decide +kernel
theorem dX6_write_99 : decode cX6_write 99 = .ok (.new 71, 3) := by decide +kernel
theorem dX6_write_102 : decode cX6_write 102 = .ok (.dup, 1) := by decide +kernel
theorem dX6_write_103 : decode cX6_write 103 = .ok (.ldc 73, 2) := by decide +kernel
theorem dX6_write_105 : decode cX6_write 105 = .ok (.invokespecial 75, 3) := by decide +kernel
theorem dX6_write_108 : decode cX6_write 108 = .ok (.athrow, 1) := by decide +kernel
theorem dX6_write_109 : decode cX6_write 109 = .ok (.aload_n 0, 1) := by decide +kernel
theorem dX6_write_110 : decode cX6_write 110 = .ok (.getfield 12, 3) := by decide +kernel
theorem dX6_write_113 : decode cX6_write 113 = .ok (.getfield 46, 3) := by decide +kernel
theorem dX6_write_116 : decode cX6_write 116 = .ok (.iload 8, 2) := by decide +kernel
theorem dX6_write_118 : decode cX6_write 118 = .ok (.iload 4, 2) := by decide +kernel
theorem dX6_write_120 : decode cX6_write 120 = .ok (.aload_n 0, 1) := by decide +kernel
theorem dX6_write_121 : decode cX6_write 121 = .ok (.getfield 12, 3) := by decide +kernel
theorem dX6_write_124 : decode cX6_write 124 = .ok (.getfield 50, 3) := by decide +kernel
theorem dX6_write_127 : decode cX6_write 127 = .ok (.invokevirtual 78, 3) := by decide +kernel
theorem dX6_write_130 : decode cX6_write 130 = .ok (.aload_n 0, 1) := by decide +kernel
theorem dX6_write_131 : decode cX6_write 131 = .ok (.getfield 12, 3) := by decide +kernel
theorem dX6_write_134 : decode cX6_write 134 = .ok (.aload 5, 2) := by decide +kernel
theorem dX6_write_136 : decode cX6_write 136 = .ok (.iload 6, 2) := by decide +kernel
theorem dX6_write_138 : decode cX6_write 138 = .ok (.iload 8, 2) := by decide +kernel
theorem dX6_write_140 : decode cX6_write 140 = .ok (.invokevirtual 82, 3) := by decide +kernel
theorem dX6_write_143 : decode cX6_write 143 = .ok (.aload_n 0, 1) := by decide +kernel
theorem dX6_write_144 : decode cX6_write 144 = .ok (.getfield 12, 3) := by decide +kernel
theorem dX6_write_147 : decode cX6_write 147 = .ok (.invokevirtual 86, 3) := by decide +kernel
theorem dX6_write_150 : decode cX6_write 150 = .ok (.pop, 1) := by decide +kernel
theorem dX6_write_151 : decode cX6_write 151 = .ok (.iload 8, 2) := by decide +kernel
theorem dX6_write_153 : decode cX6_write 153 = .ok (.ireturn, 1) := by decide +kernel
theorem dX6_read_0 : decode cX6_read 0 = .ok (.aload_n 0, 1) := by decide +kernel
theorem dX6_read_1 : decode cX6_read 1 = .ok (.getfield 12, 3) := by decide +kernel
theorem dX6_read_4 : decode cX6_read 4 = .ok (.getfield 46, 3) := by decide +kernel
theorem dX6_read_7 : decode cX6_read 7 = .ok (.aload_n 0, 1) := by decide +kernel
theorem dX6_read_8 : decode cX6_read 8 = .ok (.iload_n 1, 1) := by decide +kernel
theorem dX6_read_9 : decode cX6_read 9 = .ok (.invokevirtual 26, 3) := by decide +kernel
theorem dX6_read_12 : decode cX6_read 12 = .ok (.getfield 30, 3) := by decide +kernel
theorem dX6_read_15 : decode cX6_read 15 = .ok (.iload_n 2, 1) := by decide +kernel
theorem dX6_read_16 : decode cX6_read 16 = .ok (.iload_n 3, 1) := by decide +kernel
theorem dX6_read_17 : decode cX6_read 17 = .ok (.invokestatic 36, 3) := by decide +kernel
theorem dX6_read_20 : decode cX6_read 20 = .ok (.invokevirtual 40, 3) := by decide +kernel
theorem dX6_read_23 : decode cX6_read 23 = .ok (.invokevirtual 89, 3) := by decide +kernel
theorem dX6_read_26 : decode cX6_read 26 = .ok (.ireturn, 1) := by decide +kernel
theorem dX6_blockAt_0 : decode cX6_blockAt 0 = .ok (.aload_n 0, 1) := by decide +kernel
theorem dX6_blockAt_1 : decode cX6_blockAt 1 = .ok (.iload_n 1, 1) := by decide +kernel
theorem dX6_blockAt_2 : decode cX6_blockAt 2 = .ok (.invokevirtual 26, 3) := by decide +kernel
theorem dX6_blockAt_5 : decode cX6_blockAt 5 = .ok (.getfield 30, 3) := by decide +kernel
theorem dX6_blockAt_8 : decode cX6_blockAt 8 = .ok (.iload_n 2, 1) := by decide +kernel
theorem dX6_blockAt_9 : decode cX6_blockAt 9 = .ok (.iload_n 3, 1) := by decide +kernel
theorem dX6_blockAt_10 : decode cX6_blockAt 10 = .ok (.invokestatic 36, 3) := by decide +kernel
theorem dX6_blockAt_13 : decode cX6_blockAt 13 = .ok (.invokevirtual 40, 3) := by decide +kernel
theorem dX6_blockAt_16 : decode cX6_blockAt 16 = .ok (.ireturn, 1) := by decide +kernel
theorem dX6_length_0 : decode cX6_length 0 = .ok (.aload_n 0, 1) := by decide +kernel
theorem dX6_length_1 : decode cX6_length 1 = .ok (.iload_n 1, 1) := by decide +kernel
theorem dX6_length_2 : decode cX6_length 2 = .ok (.invokevirtual 26, 3) := by decide +kernel
theorem dX6_length_5 : decode cX6_length 5 = .ok (.getfield 30, 3) := by decide +kernel
theorem dX6_length_8 : decode cX6_length 8 = .ok (.astore_n 3, 1) := by decide +kernel
theorem dX6_length_9 : decode cX6_length 9 = .ok (.iload_n 2, 1) := by decide +kernel
theorem dX6_length_10 : decode cX6_length 10 = .ok (.iconst 0, 1) := by decide +kernel
theorem dX6_length_11 : decode cX6_length 11 = .ok (.invokestatic 36, 3) := by decide +kernel
theorem dX6_length_14 : decode cX6_length 14 = .ok (.istore 4, 2) := by decide +kernel
theorem dX6_length_16 : decode cX6_length 16 = .ok (.iconst 0, 1) := by decide +kernel
theorem dX6_length_17 : decode cX6_length 17 = .ok (.istore 5, 2) := by decide +kernel
theorem dX6_length_19 : decode cX6_length 19 = .ok (.iconst 0, 1) := by decide +kernel
theorem dX6_length_20 : decode cX6_length 20 = .ok (.istore 6, 2) := by decide +kernel
theorem dX6_length_22 : decode cX6_length 22 = .ok (.iload 6, 2) := by decide +kernel
theorem dX6_length_24 : decode cX6_length 24 = .ok (.bipush 16, 2) := by decide +kernel
theorem dX6_length_26 : decode cX6_length 26 = .ok (.if_icmp .ge 28, 3) := by decide +kernel
theorem dX6_length_29 : decode cX6_length 29 = .ok (.aload_n 3, 1) := by decide +kernel
theorem dX6_length_30 : decode cX6_length 30 = .ok (.iload 4, 2) := by decide +kernel
theorem dX6_length_32 : decode cX6_length 32 = .ok (.iload 6, 2) := by decide +kernel
theorem dX6_length_34 : decode cX6_length 34 = .ok (.iadd, 1) := by decide +kernel
theorem dX6_length_35 : decode cX6_length 35 = .ok (.invokevirtual 40, 3) := by decide +kernel
theorem dX6_length_38 : decode cX6_length 38 = .ok (.iconst (-1), 1) := by decide +kernel
theorem dX6_length_39 : decode cX6_length 39 = .ok (.if_icmp .eq 9, 3) := by decide +kernel
theorem dX6_length_42 : decode cX6_length 42 = .ok (.iload 6, 2) := by decide +kernel
theorem dX6_length_44 : decode cX6_length 44 = .ok (.iconst 1, 1) := by decide +kernel
theorem dX6_length_45 : decode cX6_length 45 = .ok (.iadd, 1) := by decide +kernel
theorem dX6_length_46 : decode cX6_length 46 = .ok (.istore 5, 2) := by decide +kernel
theorem dX6_length_48 : decode cX6_length 48 = .ok (.iinc 6 1, 3) := by decide +kernel
theorem dX6_length_51 : decode cX6_length 51 = .ok (.goto (-29), 3) := by decide +kernel
theorem dX6_length_54 : decode cX6_length 54 = .ok (.iload 5, 2) := by decide +kernel
theorem dX6_length_56 : decode cX6_length 56 = .ok (.ireturn, 1) := by decide +kernel
theorem dX6_punch_0 : decode cX6_punch 0 = .ok (.aload_n 0, 1) := by decide +kernel
theorem dX6_punch_1 : decode cX6_punch 1 = .ok (.iload_n 1, 1) := by decide +kernel
theorem dX6_punch_2 : decode cX6_punch 2 = .ok (.invokevirtual 26, 3) := by decide +kernel
theorem dX6_punch_5 : decode cX6_punch 5 = .ok (.getfield 30, 3) := by decide +kernel
theorem dX6_punch_8 : decode cX6_punch 8 = .ok (.astore 5, 2) := by decide +kernel
theorem dX6_punch_10 : decode cX6_punch 10 = .ok (.iload_n 2, 1) := by decide +kernel
theorem dX6_punch_11 : decode cX6_punch 11 = .ok (.iload_n 3, 1) := by decide +kernel
theorem dX6_punch_12 : decode cX6_punch 12 = .ok (.invokestatic 36, 3) := by decide +kernel
theorem dX6_punch_15 : decode cX6_punch 15 = .ok (.istore 6, 2) := by decide +kernel
theorem dX6_punch_17 : decode cX6_punch 17 = .ok (.iload_n 3, 1) := by decide +kernel
theorem dX6_punch_18 : decode cX6_punch 18 = .ok (.iload 4, 2) := by decide +kernel
theorem dX6_punch_20 : decode cX6_punch 20 = .ok (.invokestatic 92, 3) := by decide +kernel
theorem dX6_punch_23 : decode cX6_punch 23 = .ok (.ifCond .ne 13, 3) := by decide +kernel
theorem dX6_punch_26 : decode cX6_punch 26 = .ok (.new 95, 3) := by decide +kernel
theorem dX6_punch_29 : decode cX6_punch 29 = .ok (.dup, 1) := by decide +kernel
theorem dX6_punch_30 : decode cX6_punch 30 = .ok (.ldc 97, 2) := by decide +kernel
theorem dX6_punch_32 : decode cX6_punch 32 = .ok (.invokespecial 99, 3) := by decide +kernel
theorem dX6_punch_35 : decode cX6_punch 35 = .ok (.athrow, 1) := by decide +kernel
theorem dX6_punch_36 : decode cX6_punch 36 = .ok (.iconst 0, 1) := by decide +kernel
theorem dX6_punch_37 : decode cX6_punch 37 = .ok (.istore 7, 2) := by decide +kernel
theorem dX6_punch_39 : decode cX6_punch 39 = .ok (.iconst 0, 1) := by decide +kernel
theorem dX6_punch_40 : decode cX6_punch 40 = .ok (.istore 8, 2) := by decide +kernel
theorem dX6_punch_42 : decode cX6_punch 42 = .ok (.iload 8, 2) := by decide +kernel
theorem dX6_punch_44 : decode cX6_punch 44 = .ok (.iload 4, 2) := by decide +kernel
theorem dX6_punch_46 : decode cX6_punch 46 = .ok (.if_icmp .ge 41, 3) := by decide +kernel
theorem dX6_punch_49 : decode cX6_punch 49 = .ok (.aload 5, 2) := by decide +kernel
theorem dX6_punch_51 : decode cX6_punch 51 = .ok (.iload 6, 2) := by decide +kernel
theorem dX6_punch_53 : decode cX6_punch 53 = .ok (.iload 8, 2) := by decide +kernel
theorem dX6_punch_55 : decode cX6_punch 55 = .ok (.iadd, 1) := by decide +kernel
theorem dX6_punch_56 : decode cX6_punch 56 = .ok (.invokevirtual 40, 3) := by decide +kernel
theorem dX6_punch_59 : decode cX6_punch 59 = .ok (.iconst (-1), 1) := by decide +kernel
theorem dX6_punch_60 : decode cX6_punch 60 = .ok (.if_icmp .eq 21, 3) := by decide +kernel
theorem dX6_punch_63 : decode cX6_punch 63 = .ok (.aload_n 0, 1) := by decide +kernel
theorem dX6_punch_64 : decode cX6_punch 64 = .ok (.getfield 12, 3) := by decide +kernel
theorem dX6_punch_67 : decode cX6_punch 67 = .ok (.aload 5, 2) := by decide +kernel
theorem dX6_punch_69 : decode cX6_punch 69 = .ok (.iload 6, 2) := by decide +kernel
theorem dX6_punch_71 : decode cX6_punch 71 = .ok (.iload 8, 2) := by decide +kernel
theorem dX6_punch_73 : decode cX6_punch 73 = .ok (.iadd, 1) := by decide +kernel
theorem dX6_punch_74 : decode cX6_punch 74 = .ok (.iconst (-1), 1) := by decide +kernel
theorem dX6_punch_75 : decode cX6_punch 75 = .ok (.invokevirtual 82, 3) := by decide +kernel
theorem dX6_punch_78 : decode cX6_punch 78 = .ok (.iinc 7 1, 3) := by decide +kernel
theorem dX6_punch_81 : decode cX6_punch 81 = .ok (.iinc 8 1, 3) := by decide +kernel
theorem dX6_punch_84 : decode cX6_punch 84 = .ok (.goto (-42), 3) := by decide +kernel
theorem dX6_punch_87 : decode cX6_punch 87 = .ok (.aload_n 0, 1) := by decide +kernel
theorem dX6_punch_88 : decode cX6_punch 88 = .ok (.getfield 12, 3) := by decide +kernel
theorem dX6_punch_91 : decode cX6_punch 91 = .ok (.invokevirtual 86, 3) := by decide +kernel
theorem dX6_punch_94 : decode cX6_punch 94 = .ok (.pop, 1) := by decide +kernel
theorem dX6_punch_95 : decode cX6_punch 95 = .ok (.iload 7, 2) := by decide +kernel
theorem dX6_punch_97 : decode cX6_punch 97 = .ok (.ireturn, 1) := by decide +kernel
theorem dX6_reflink_0 : decode cX6_reflink 0 = .ok (.aload_n 0, 1) := by decide +kernel
theorem dX6_reflink_1 : decode cX6_reflink 1 = .ok (.iload_n 1, 1) := by decide +kernel
theorem dX6_reflink_2 : decode cX6_reflink 2 = .ok (.invokevirtual 26, 3) := by decide +kernel
theorem dX6_reflink_5 : decode cX6_reflink 5 = .ok (.getfield 30, 3) := by decide +kernel
theorem dX6_reflink_8 : decode cX6_reflink 8 = .ok (.astore 7, 2) := by decide +kernel
theorem dX6_reflink_10 : decode cX6_reflink 10 = .ok (.iload_n 2, 1) := by decide +kernel
theorem dX6_reflink_11 : decode cX6_reflink 11 = .ok (.iload_n 3, 1) := by decide +kernel
theorem dX6_reflink_12 : decode cX6_reflink 12 = .ok (.invokestatic 36, 3) := by decide +kernel
theorem dX6_reflink_15 : decode cX6_reflink 15 = .ok (.istore 8, 2) := by decide +kernel
theorem dX6_reflink_17 : decode cX6_reflink 17 = .ok (.iload 4, 2) := by decide +kernel
theorem dX6_reflink_19 : decode cX6_reflink 19 = .ok (.iload 5, 2) := by decide +kernel
theorem dX6_reflink_21 : decode cX6_reflink 21 = .ok (.invokestatic 36, 3) := by decide +kernel
theorem dX6_reflink_24 : decode cX6_reflink 24 = .ok (.istore 9, 2) := by decide +kernel
theorem dX6_reflink_26 : decode cX6_reflink 26 = .ok (.iload_n 3, 1) := by decide +kernel
theorem dX6_reflink_27 : decode cX6_reflink 27 = .ok (.iload 6, 2) := by decide +kernel
theorem dX6_reflink_29 : decode cX6_reflink 29 = .ok (.invokestatic 92, 3) := by decide +kernel
theorem dX6_reflink_32 : decode cX6_reflink 32 = .ok (.ifCond .eq 13, 3) := by decide +kernel
theorem dX6_reflink_35 : decode cX6_reflink 35 = .ok (.iload 5, 2) := by decide +kernel
theorem dX6_reflink_37 : decode cX6_reflink 37 = .ok (.iload 6, 2) := by decide +kernel
theorem dX6_reflink_39 : decode cX6_reflink 39 = .ok (.invokestatic 92, 3) := by decide +kernel
theorem dX6_reflink_42 : decode cX6_reflink 42 = .ok (.ifCond .ne 13, 3) := by decide +kernel
theorem dX6_reflink_45 : decode cX6_reflink 45 = .ok (.new 95, 3) := by decide +kernel
theorem dX6_reflink_48 : decode cX6_reflink 48 = .ok (.dup, 1) := by decide +kernel
theorem dX6_reflink_49 : decode cX6_reflink 49 = .ok (.ldc 100, 2) := by decide +kernel
theorem dX6_reflink_51 : decode cX6_reflink 51 = .ok (.invokespecial 99, 3) := by decide +kernel
theorem dX6_reflink_54 : decode cX6_reflink 54 = .ok (.athrow, 1) := by decide +kernel
theorem dX6_reflink_55 : decode cX6_reflink 55 = .ok (.aload_n 0, 1) := by decide +kernel
theorem dX6_reflink_56 : decode cX6_reflink 56 = .ok (.aload 7, 2) := by decide +kernel
theorem dX6_reflink_58 : decode cX6_reflink 58 = .ok (.iload 8, 2) := by decide +kernel
theorem dX6_reflink_60 : decode cX6_reflink 60 = .ok (.iload 6, 2) := by decide +kernel
theorem dX6_reflink_62 : decode cX6_reflink 62 = .ok (.invokevirtual 102, 3) := by decide +kernel
theorem dX6_reflink_65 : decode cX6_reflink 65 = .ok (.iconst 0, 1) := by decide +kernel
theorem dX6_reflink_66 : decode cX6_reflink 66 = .ok (.istore 10, 2) := by decide +kernel
theorem dX6_reflink_68 : decode cX6_reflink 68 = .ok (.iconst 0, 1) := by decide +kernel
theorem dX6_reflink_69 : decode cX6_reflink 69 = .ok (.istore 11, 2) := by decide +kernel
theorem dX6_reflink_71 : decode cX6_reflink 71 = .ok (.iload 11, 2) := by decide +kernel
theorem dX6_reflink_73 : decode cX6_reflink 73 = .ok (.iload 6, 2) := by decide +kernel
theorem dX6_reflink_75 : decode cX6_reflink 75 = .ok (.if_icmp .ge 63, 3) := by decide +kernel
theorem dX6_reflink_78 : decode cX6_reflink 78 = .ok (.iload 11, 2) := by decide +kernel
theorem dX6_reflink_80 : decode cX6_reflink 80 = .ok (.aload_n 0, 1) := by decide +kernel
theorem dX6_reflink_81 : decode cX6_reflink 81 = .ok (.getfield 19, 3) := by decide +kernel
theorem dX6_reflink_84 : decode cX6_reflink 84 = .ok (.arraylength, 1) := by decide +kernel
theorem dX6_reflink_85 : decode cX6_reflink 85 = .ok (.if_icmp .ge 53, 3) := by decide +kernel
theorem dX6_reflink_88 : decode cX6_reflink 88 = .ok (.aload 7, 2) := by decide +kernel
theorem dX6_reflink_90 : decode cX6_reflink 90 = .ok (.iload 9, 2) := by decide +kernel
theorem dX6_reflink_92 : decode cX6_reflink 92 = .ok (.iload 11, 2) := by decide +kernel
theorem dX6_reflink_94 : decode cX6_reflink 94 = .ok (.iadd, 1) := by decide +kernel
theorem dX6_reflink_95 : decode cX6_reflink 95 = .ok (.invokevirtual 40, 3) := by decide +kernel
theorem dX6_reflink_98 : decode cX6_reflink 98 = .ok (.aload_n 0, 1) := by decide +kernel
theorem dX6_reflink_99 : decode cX6_reflink 99 = .ok (.getfield 19, 3) := by decide +kernel
theorem dX6_reflink_102 : decode cX6_reflink 102 = .ok (.iload 11, 2) := by decide +kernel
theorem dX6_reflink_104 : decode cX6_reflink 104 = .ok (.iaload, 1) := by decide +kernel
theorem dX6_reflink_105 : decode cX6_reflink 105 = .ok (.if_icmp .eq 27, 3) := by decide +kernel
theorem dX6_reflink_108 : decode cX6_reflink 108 = .ok (.aload_n 0, 1) := by decide +kernel
theorem dX6_reflink_109 : decode cX6_reflink 109 = .ok (.getfield 12, 3) := by decide +kernel
theorem dX6_reflink_112 : decode cX6_reflink 112 = .ok (.aload 7, 2) := by decide +kernel
theorem dX6_reflink_114 : decode cX6_reflink 114 = .ok (.iload 9, 2) := by decide +kernel
theorem dX6_reflink_116 : decode cX6_reflink 116 = .ok (.iload 11, 2) := by decide +kernel
theorem dX6_reflink_118 : decode cX6_reflink 118 = .ok (.iadd, 1) := by decide +kernel
theorem dX6_reflink_119 : decode cX6_reflink 119 = .ok (.aload_n 0, 1) := by decide +kernel
theorem dX6_reflink_120 : decode cX6_reflink 120 = .ok (.getfield 19, 3) := by decide +kernel
theorem dX6_reflink_123 : decode cX6_reflink 123 = .ok (.iload 11, 2) := by decide +kernel
theorem dX6_reflink_125 : decode cX6_reflink 125 = .ok (.iaload, 1) := by decide +kernel
theorem dX6_reflink_126 : decode cX6_reflink 126 = .ok (.invokevirtual 82, 3) := by decide +kernel
theorem dX6_reflink_129 : decode cX6_reflink 129 = .ok (.iinc 10 1, 3) := by decide +kernel
theorem dX6_reflink_132 : decode cX6_reflink 132 = .ok (.iinc 11 1, 3) := by decide +kernel
theorem dX6_reflink_135 : decode cX6_reflink 135 = .ok (.goto (-64), 3) := by decide +kernel
theorem dX6_reflink_138 : decode cX6_reflink 138 = .ok (.aload_n 0, 1) := by decide +kernel
theorem dX6_reflink_139 : decode cX6_reflink 139 = .ok (.getfield 12, 3) := by decide +kernel
theorem dX6_reflink_142 : decode cX6_reflink 142 = .ok (.invokevirtual 86, 3) := by decide +kernel
theorem dX6_reflink_145 : decode cX6_reflink 145 = .ok (.pop, 1) := by decide +kernel
theorem dX6_reflink_146 : decode cX6_reflink 146 = .ok (.iload 10, 2) := by decide +kernel
theorem dX6_reflink_148 : decode cX6_reflink 148 = .ok (.ireturn, 1) := by decide +kernel
theorem dX6_commit_0 : decode cX6_commit 0 = .ok (.aload_n 0, 1) := by decide +kernel
theorem dX6_commit_1 : decode cX6_commit 1 = .ok (.invokevirtual 105, 3) := by decide +kernel
theorem dX6_commit_4 : decode cX6_commit 4 = .ok (.ireturn, 1) := by decide +kernel
theorem dX6_crash_0 : decode cX6_crash 0 = .ok (.aload_n 0, 1) := by decide +kernel
theorem dX6_crash_1 : decode cX6_crash 1 = .ok (.getfield 12, 3) := by decide +kernel
theorem dX6_crash_4 : decode cX6_crash 4 = .ok (.aload_n 0, 1) := by decide +kernel
theorem dX6_crash_5 : decode cX6_crash 5 = .ok (.getfield 16, 3) := by decide +kernel
theorem dX6_crash_8 : decode cX6_crash 8 = .ok (.invokevirtual 108, 3) := by decide +kernel
theorem dX6_crash_11 : decode cX6_crash 11 = .ok (.aload_n 0, 1) := by decide +kernel
theorem dX6_crash_12 : decode cX6_crash 12 = .ok (.getfield 12, 3) := by decide +kernel
theorem dX6_crash_15 : decode cX6_crash 15 = .ok (.getfield 50, 3) := by decide +kernel
theorem dX6_crash_18 : decode cX6_crash 18 = .ok (.ireturn, 1) := by decide +kernel
theorem dX6_transaction_0 : decode cX6_transaction 0 = .ok (.aload_n 0, 1) := by decide +kernel
theorem dX6_transaction_1 : decode cX6_transaction 1 = .ok (.getfield 12, 3) := by decide +kernel
theorem dX6_transaction_4 : decode cX6_transaction 4 = .ok (.getfield 50, 3) := by decide +kernel
theorem dX6_transaction_7 : decode cX6_transaction 7 = .ok (.ireturn, 1) := by decide +kernel
theorem dX6_snapshot_0 : decode cX6_snapshot 0 = .ok (.aload_n 0, 1) := by decide +kernel
theorem dX6_snapshot_1 : decode cX6_snapshot 1 = .ok (.iload_n 1, 1) := by decide +kernel
theorem dX6_snapshot_2 : decode cX6_snapshot 2 = .ok (.invokevirtual 26, 3) := by decide +kernel
theorem dX6_snapshot_5 : decode cX6_snapshot 5 = .ok (.astore_n 2, 1) := by decide +kernel
theorem dX6_snapshot_6 : decode cX6_snapshot 6 = .ok (.aload_n 0, 1) := by decide +kernel
theorem dX6_snapshot_7 : decode cX6_snapshot 7 = .ok (.getfield 12, 3) := by decide +kernel
theorem dX6_snapshot_10 : decode cX6_snapshot 10 = .ok (.invokevirtual 112, 3) := by decide +kernel
theorem dX6_snapshot_13 : decode cX6_snapshot 13 = .ok (.astore_n 3, 1) := by decide +kernel
theorem dX6_snapshot_14 : decode cX6_snapshot 14 = .ok (.aload_n 3, 1) := by decide +kernel
theorem dX6_snapshot_15 : decode cX6_snapshot 15 = .ok (.ifnonnull 13, 3) := by decide +kernel
theorem dX6_snapshot_18 : decode cX6_snapshot 18 = .ok (.new 71, 3) := by decide +kernel
theorem dX6_snapshot_21 : decode cX6_snapshot 21 = .ok (.dup, 1) := by decide +kernel
theorem dX6_snapshot_22 : decode cX6_snapshot 22 = .ok (.ldc 116, 2) := by decide +kernel
theorem dX6_snapshot_24 : decode cX6_snapshot 24 = .ok (.invokespecial 75, 3) := by decide +kernel
theorem dX6_snapshot_27 : decode cX6_snapshot 27 = .ok (.athrow, 1) := by decide +kernel
theorem dX6_snapshot_28 : decode cX6_snapshot 28 = .ok (.aload_n 0, 1) := by decide +kernel
theorem dX6_snapshot_29 : decode cX6_snapshot 29 = .ok (.getfield 12, 3) := by decide +kernel
theorem dX6_snapshot_32 : decode cX6_snapshot 32 = .ok (.aload_n 3, 1) := by decide +kernel
theorem dX6_snapshot_33 : decode cX6_snapshot 33 = .ok (.aload_n 2, 1) := by decide +kernel
theorem dX6_snapshot_34 : decode cX6_snapshot 34 = .ok (.iload_n 1, 1) := by decide +kernel
theorem dX6_snapshot_35 : decode cX6_snapshot 35 = .ok (.invokevirtual 118, 3) := by decide +kernel
theorem dX6_snapshot_38 : decode cX6_snapshot 38 = .ok (.aload_n 0, 1) := by decide +kernel
theorem dX6_snapshot_39 : decode cX6_snapshot 39 = .ok (.invokevirtual 105, 3) := by decide +kernel
theorem dX6_snapshot_42 : decode cX6_snapshot 42 = .ok (.pop, 1) := by decide +kernel
theorem dX6_snapshot_43 : decode cX6_snapshot 43 = .ok (.aload_n 3, 1) := by decide +kernel
theorem dX6_snapshot_44 : decode cX6_snapshot 44 = .ok (.getfield 121, 3) := by decide +kernel
theorem dX6_snapshot_47 : decode cX6_snapshot 47 = .ok (.ireturn, 1) := by decide +kernel
theorem dX6_readSnapshot_0 : decode cX6_readSnapshot 0 = .ok (.aload_n 0, 1) := by decide +kernel
theorem dX6_readSnapshot_1 : decode cX6_readSnapshot 1 = .ok (.getfield 12, 3) := by decide +kernel
theorem dX6_readSnapshot_4 : decode cX6_readSnapshot 4 = .ok (.getfield 46, 3) := by decide +kernel
theorem dX6_readSnapshot_7 : decode cX6_readSnapshot 7 = .ok (.aload_n 0, 1) := by decide +kernel
theorem dX6_readSnapshot_8 : decode cX6_readSnapshot 8 = .ok (.iload_n 1, 1) := by decide +kernel
theorem dX6_readSnapshot_9 : decode cX6_readSnapshot 9 = .ok (.invokevirtual 124, 3) := by decide +kernel
theorem dX6_readSnapshot_12 : decode cX6_readSnapshot 12 = .ok (.getfield 128, 3) := by decide +kernel
theorem dX6_readSnapshot_15 : decode cX6_readSnapshot 15 = .ok (.iload_n 2, 1) := by decide +kernel
theorem dX6_readSnapshot_16 : decode cX6_readSnapshot 16 = .ok (.iload_n 3, 1) := by decide +kernel
theorem dX6_readSnapshot_17 : decode cX6_readSnapshot 17 = .ok (.invokestatic 36, 3) := by decide +kernel
theorem dX6_readSnapshot_20 : decode cX6_readSnapshot 20 = .ok (.invokevirtual 40, 3) := by decide +kernel
theorem dX6_readSnapshot_23 : decode cX6_readSnapshot 23 = .ok (.invokevirtual 89, 3) := by decide +kernel
theorem dX6_readSnapshot_26 : decode cX6_readSnapshot 26 = .ok (.ireturn, 1) := by decide +kernel
theorem dX6_blockInSnapshot_0 : decode cX6_blockInSnapshot 0 = .ok (.aload_n 0, 1) := by decide +kernel
theorem dX6_blockInSnapshot_1 : decode cX6_blockInSnapshot 1 = .ok (.iload_n 1, 1) := by decide +kernel
theorem dX6_blockInSnapshot_2 : decode cX6_blockInSnapshot 2 = .ok (.invokevirtual 124, 3) := by decide +kernel
theorem dX6_blockInSnapshot_5 : decode cX6_blockInSnapshot 5 = .ok (.getfield 128, 3) := by decide +kernel
theorem dX6_blockInSnapshot_8 : decode cX6_blockInSnapshot 8 = .ok (.iload_n 2, 1) := by decide +kernel
theorem dX6_blockInSnapshot_9 : decode cX6_blockInSnapshot 9 = .ok (.iload_n 3, 1) := by decide +kernel
theorem dX6_blockInSnapshot_10 : decode cX6_blockInSnapshot 10 = .ok (.invokestatic 36, 3) := by decide +kernel
theorem dX6_blockInSnapshot_13 : decode cX6_blockInSnapshot 13 = .ok (.invokevirtual 40, 3) := by decide +kernel
theorem dX6_blockInSnapshot_16 : decode cX6_blockInSnapshot 16 = .ok (.ireturn, 1) := by decide +kernel
theorem dX6_transactionOf_0 : decode cX6_transactionOf 0 = .ok (.aload_n 0, 1) := by decide +kernel
theorem dX6_transactionOf_1 : decode cX6_transactionOf 1 = .ok (.iload_n 1, 1) := by decide +kernel
theorem dX6_transactionOf_2 : decode cX6_transactionOf 2 = .ok (.invokevirtual 124, 3) := by decide +kernel
theorem dX6_transactionOf_5 : decode cX6_transactionOf 5 = .ok (.getfield 129, 3) := by decide +kernel
theorem dX6_transactionOf_8 : decode cX6_transactionOf 8 = .ok (.ireturn, 1) := by decide +kernel
theorem dX6_datasetOf_0 : decode cX6_datasetOf 0 = .ok (.aload_n 0, 1) := by decide +kernel
theorem dX6_datasetOf_1 : decode cX6_datasetOf 1 = .ok (.iload_n 1, 1) := by decide +kernel
theorem dX6_datasetOf_2 : decode cX6_datasetOf 2 = .ok (.invokevirtual 124, 3) := by decide +kernel
theorem dX6_datasetOf_5 : decode cX6_datasetOf 5 = .ok (.getfield 132, 3) := by decide +kernel
theorem dX6_datasetOf_8 : decode cX6_datasetOf 8 = .ok (.ireturn, 1) := by decide +kernel
theorem dX6_snapshots_0 : decode cX6_snapshots 0 = .ok (.aload_n 0, 1) := by decide +kernel
theorem dX6_snapshots_1 : decode cX6_snapshots 1 = .ok (.iload_n 1, 1) := by decide +kernel
theorem dX6_snapshots_2 : decode cX6_snapshots 2 = .ok (.invokevirtual 26, 3) := by decide +kernel
theorem dX6_snapshots_5 : decode cX6_snapshots 5 = .ok (.pop, 1) := by decide +kernel
theorem dX6_snapshots_6 : decode cX6_snapshots 6 = .ok (.aload_n 0, 1) := by decide +kernel
theorem dX6_snapshots_7 : decode cX6_snapshots 7 = .ok (.getfield 12, 3) := by decide +kernel
theorem dX6_snapshots_10 : decode cX6_snapshots 10 = .ok (.iload_n 1, 1) := by decide +kernel
theorem dX6_snapshots_11 : decode cX6_snapshots 11 = .ok (.invokevirtual 135, 3) := by decide +kernel
theorem dX6_snapshots_14 : decode cX6_snapshots 14 = .ok (.ireturn, 1) := by decide +kernel
theorem dX6_snapshotAt_0 : decode cX6_snapshotAt 0 = .ok (.aload_n 0, 1) := by decide +kernel
theorem dX6_snapshotAt_1 : decode cX6_snapshotAt 1 = .ok (.iload_n 1, 1) := by decide +kernel
theorem dX6_snapshotAt_2 : decode cX6_snapshotAt 2 = .ok (.invokevirtual 26, 3) := by decide +kernel
theorem dX6_snapshotAt_5 : decode cX6_snapshotAt 5 = .ok (.pop, 1) := by decide +kernel
theorem dX6_snapshotAt_6 : decode cX6_snapshotAt 6 = .ok (.aload_n 0, 1) := by decide +kernel
theorem dX6_snapshotAt_7 : decode cX6_snapshotAt 7 = .ok (.getfield 12, 3) := by decide +kernel
theorem dX6_snapshotAt_10 : decode cX6_snapshotAt 10 = .ok (.iload_n 1, 1) := by decide +kernel
theorem dX6_snapshotAt_11 : decode cX6_snapshotAt 11 = .ok (.iload_n 2, 1) := by decide +kernel
theorem dX6_snapshotAt_12 : decode cX6_snapshotAt 12 = .ok (.invokevirtual 138, 3) := by decide +kernel
theorem dX6_snapshotAt_15 : decode cX6_snapshotAt 15 = .ok (.astore_n 3, 1) := by decide +kernel
theorem dX6_snapshotAt_16 : decode cX6_snapshotAt 16 = .ok (.aload_n 3, 1) := by decide +kernel
theorem dX6_snapshotAt_17 : decode cX6_snapshotAt 17 = .ok (.ifnonnull 13, 3) := by decide +kernel
theorem dX6_snapshotAt_20 : decode cX6_snapshotAt 20 = .ok (.new 142, 3) := by decide +kernel
theorem dX6_snapshotAt_23 : decode cX6_snapshotAt 23 = .ok (.dup, 1) := by decide +kernel
theorem dX6_snapshotAt_24 : decode cX6_snapshotAt 24 = .ok (.ldc 144, 2) := by decide +kernel
theorem dX6_snapshotAt_26 : decode cX6_snapshotAt 26 = .ok (.invokespecial 146, 3) := by decide +kernel
theorem dX6_snapshotAt_29 : decode cX6_snapshotAt 29 = .ok (.athrow, 1) := by decide +kernel
theorem dX6_snapshotAt_30 : decode cX6_snapshotAt 30 = .ok (.aload_n 3, 1) := by decide +kernel
theorem dX6_snapshotAt_31 : decode cX6_snapshotAt 31 = .ok (.getfield 121, 3) := by decide +kernel
theorem dX6_snapshotAt_34 : decode cX6_snapshotAt 34 = .ok (.ireturn, 1) := by decide +kernel
theorem dX6_destroySnapshot_0 : decode cX6_destroySnapshot 0 = .ok (.aload_n 0, 1) := by decide +kernel
theorem dX6_destroySnapshot_1 : decode cX6_destroySnapshot 1 = .ok (.iload_n 1, 1) := by decide +kernel
theorem dX6_destroySnapshot_2 : decode cX6_destroySnapshot 2 = .ok (.invokevirtual 124, 3) := by decide +kernel
theorem dX6_destroySnapshot_5 : decode cX6_destroySnapshot 5 = .ok (.astore_n 2, 1) := by decide +kernel
theorem dX6_destroySnapshot_6 : decode cX6_destroySnapshot 6 = .ok (.aload_n 0, 1) := by decide +kernel
theorem dX6_destroySnapshot_7 : decode cX6_destroySnapshot 7 = .ok (.getfield 12, 3) := by decide +kernel
theorem dX6_destroySnapshot_10 : decode cX6_destroySnapshot 10 = .ok (.iload_n 1, 1) := by decide +kernel
theorem dX6_destroySnapshot_11 : decode cX6_destroySnapshot 11 = .ok (.invokevirtual 147, 3) := by decide +kernel
theorem dX6_destroySnapshot_14 : decode cX6_destroySnapshot 14 = .ok (.ifCond .eq 13, 3) := by decide +kernel
theorem dX6_destroySnapshot_17 : decode cX6_destroySnapshot 17 = .ok (.new 71, 3) := by decide +kernel
theorem dX6_destroySnapshot_20 : decode cX6_destroySnapshot 20 = .ok (.dup, 1) := by decide +kernel
theorem dX6_destroySnapshot_21 : decode cX6_destroySnapshot 21 = .ok (.ldc 151, 2) := by decide +kernel
theorem dX6_destroySnapshot_23 : decode cX6_destroySnapshot 23 = .ok (.invokespecial 75, 3) := by decide +kernel
theorem dX6_destroySnapshot_26 : decode cX6_destroySnapshot 26 = .ok (.athrow, 1) := by decide +kernel
theorem dX6_destroySnapshot_27 : decode cX6_destroySnapshot 27 = .ok (.aload_n 0, 1) := by decide +kernel
theorem dX6_destroySnapshot_28 : decode cX6_destroySnapshot 28 = .ok (.getfield 12, 3) := by decide +kernel
theorem dX6_destroySnapshot_31 : decode cX6_destroySnapshot 31 = .ok (.aload_n 2, 1) := by decide +kernel
theorem dX6_destroySnapshot_32 : decode cX6_destroySnapshot 32 = .ok (.invokevirtual 153, 3) := by decide +kernel
theorem dX6_destroySnapshot_35 : decode cX6_destroySnapshot 35 = .ok (.aload_n 0, 1) := by decide +kernel
theorem dX6_destroySnapshot_36 : decode cX6_destroySnapshot 36 = .ok (.getfield 12, 3) := by decide +kernel
theorem dX6_destroySnapshot_39 : decode cX6_destroySnapshot 39 = .ok (.invokevirtual 86, 3) := by decide +kernel
theorem dX6_destroySnapshot_42 : decode cX6_destroySnapshot 42 = .ok (.ireturn, 1) := by decide +kernel
theorem dX6_rollback_0 : decode cX6_rollback 0 = .ok (.aload_n 0, 1) := by decide +kernel
theorem dX6_rollback_1 : decode cX6_rollback 1 = .ok (.iload_n 1, 1) := by decide +kernel
theorem dX6_rollback_2 : decode cX6_rollback 2 = .ok (.invokevirtual 26, 3) := by decide +kernel
theorem dX6_rollback_5 : decode cX6_rollback 5 = .ok (.astore_n 3, 1) := by decide +kernel
theorem dX6_rollback_6 : decode cX6_rollback 6 = .ok (.aload_n 0, 1) := by decide +kernel
theorem dX6_rollback_7 : decode cX6_rollback 7 = .ok (.iload_n 2, 1) := by decide +kernel
theorem dX6_rollback_8 : decode cX6_rollback 8 = .ok (.invokevirtual 124, 3) := by decide +kernel
theorem dX6_rollback_11 : decode cX6_rollback 11 = .ok (.astore 4, 2) := by decide +kernel
theorem dX6_rollback_13 : decode cX6_rollback 13 = .ok (.aload 4, 2) := by decide +kernel
theorem dX6_rollback_15 : decode cX6_rollback 15 = .ok (.getfield 132, 3) := by decide +kernel
theorem dX6_rollback_18 : decode cX6_rollback 18 = .ok (.iload_n 1, 1) := by decide +kernel
theorem dX6_rollback_19 : decode cX6_rollback 19 = .ok (.if_icmp .eq 13, 3) := by decide +kernel
theorem dX6_rollback_22 : decode cX6_rollback 22 = .ok (.new 95, 3) := by decide +kernel
theorem dX6_rollback_25 : decode cX6_rollback 25 = .ok (.dup, 1) := by decide +kernel
theorem dX6_rollback_26 : decode cX6_rollback 26 = .ok (.ldc 157, 2) := by decide +kernel
theorem dX6_rollback_28 : decode cX6_rollback 28 = .ok (.invokespecial 99, 3) := by decide +kernel
theorem dX6_rollback_31 : decode cX6_rollback 31 = .ok (.athrow, 1) := by decide +kernel
theorem dX6_rollback_32 : decode cX6_rollback 32 = .ok (.aload_n 0, 1) := by decide +kernel
theorem dX6_rollback_33 : decode cX6_rollback 33 = .ok (.getfield 12, 3) := by decide +kernel
theorem dX6_rollback_36 : decode cX6_rollback 36 = .ok (.aload 4, 2) := by decide +kernel
theorem dX6_rollback_38 : decode cX6_rollback 38 = .ok (.invokevirtual 159, 3) := by decide +kernel
theorem dX6_rollback_41 : decode cX6_rollback 41 = .ok (.ifCond .eq 13, 3) := by decide +kernel
theorem dX6_rollback_44 : decode cX6_rollback 44 = .ok (.new 71, 3) := by decide +kernel
theorem dX6_rollback_47 : decode cX6_rollback 47 = .ok (.dup, 1) := by decide +kernel
theorem dX6_rollback_48 : decode cX6_rollback 48 = .ok (.ldc 163, 2) := by decide +kernel
theorem dX6_rollback_50 : decode cX6_rollback 50 = .ok (.invokespecial 75, 3) := by decide +kernel
theorem dX6_rollback_53 : decode cX6_rollback 53 = .ok (.athrow, 1) := by decide +kernel
theorem dX6_rollback_54 : decode cX6_rollback 54 = .ok (.aload_n 0, 1) := by decide +kernel
theorem dX6_rollback_55 : decode cX6_rollback 55 = .ok (.getfield 12, 3) := by decide +kernel
theorem dX6_rollback_58 : decode cX6_rollback 58 = .ok (.aload_n 3, 1) := by decide +kernel
theorem dX6_rollback_59 : decode cX6_rollback 59 = .ok (.getfield 30, 3) := by decide +kernel
theorem dX6_rollback_62 : decode cX6_rollback 62 = .ok (.aload 4, 2) := by decide +kernel
theorem dX6_rollback_64 : decode cX6_rollback 64 = .ok (.getfield 128, 3) := by decide +kernel
theorem dX6_rollback_67 : decode cX6_rollback 67 = .ok (.invokevirtual 165, 3) := by decide +kernel
theorem dX6_rollback_70 : decode cX6_rollback 70 = .ok (.aload_n 0, 1) := by decide +kernel
theorem dX6_rollback_71 : decode cX6_rollback 71 = .ok (.getfield 12, 3) := by decide +kernel
theorem dX6_rollback_74 : decode cX6_rollback 74 = .ok (.aload 4, 2) := by decide +kernel
theorem dX6_rollback_76 : decode cX6_rollback 76 = .ok (.invokevirtual 169, 3) := by decide +kernel
theorem dX6_rollback_79 : decode cX6_rollback 79 = .ok (.istore 5, 2) := by decide +kernel
theorem dX6_rollback_81 : decode cX6_rollback 81 = .ok (.aload_n 0, 1) := by decide +kernel
theorem dX6_rollback_82 : decode cX6_rollback 82 = .ok (.getfield 12, 3) := by decide +kernel
theorem dX6_rollback_85 : decode cX6_rollback 85 = .ok (.invokevirtual 86, 3) := by decide +kernel
theorem dX6_rollback_88 : decode cX6_rollback 88 = .ok (.pop, 1) := by decide +kernel
theorem dX6_rollback_89 : decode cX6_rollback 89 = .ok (.iload 5, 2) := by decide +kernel
theorem dX6_rollback_91 : decode cX6_rollback 91 = .ok (.ireturn, 1) := by decide +kernel
theorem dX6_changed_0 : decode cX6_changed 0 = .ok (.aload_n 0, 1) := by decide +kernel
theorem dX6_changed_1 : decode cX6_changed 1 = .ok (.iload_n 1, 1) := by decide +kernel
theorem dX6_changed_2 : decode cX6_changed 2 = .ok (.invokevirtual 124, 3) := by decide +kernel
theorem dX6_changed_5 : decode cX6_changed 5 = .ok (.getfield 128, 3) := by decide +kernel
theorem dX6_changed_8 : decode cX6_changed 8 = .ok (.astore_n 3, 1) := by decide +kernel
theorem dX6_changed_9 : decode cX6_changed 9 = .ok (.aload_n 0, 1) := by decide +kernel
theorem dX6_changed_10 : decode cX6_changed 10 = .ok (.iload_n 2, 1) := by decide +kernel
theorem dX6_changed_11 : decode cX6_changed 11 = .ok (.invokevirtual 26, 3) := by decide +kernel
theorem dX6_changed_14 : decode cX6_changed 14 = .ok (.getfield 30, 3) := by decide +kernel
theorem dX6_changed_17 : decode cX6_changed 17 = .ok (.astore 4, 2) := by decide +kernel
theorem dX6_changed_19 : decode cX6_changed 19 = .ok (.iconst 0, 1) := by decide +kernel
theorem dX6_changed_20 : decode cX6_changed 20 = .ok (.istore 5, 2) := by decide +kernel
theorem dX6_changed_22 : decode cX6_changed 22 = .ok (.iconst 0, 1) := by decide +kernel
theorem dX6_changed_23 : decode cX6_changed 23 = .ok (.istore 6, 2) := by decide +kernel
theorem dX6_changed_25 : decode cX6_changed 25 = .ok (.iload 6, 2) := by decide +kernel
theorem dX6_changed_27 : decode cX6_changed 27 = .ok (.sipush 128, 3) := by decide +kernel
theorem dX6_changed_30 : decode cX6_changed 30 = .ok (.if_icmp .ge 28, 3) := by decide +kernel
theorem dX6_changed_33 : decode cX6_changed 33 = .ok (.aload_n 3, 1) := by decide +kernel
theorem dX6_changed_34 : decode cX6_changed 34 = .ok (.iload 6, 2) := by decide +kernel
theorem dX6_changed_36 : decode cX6_changed 36 = .ok (.invokevirtual 40, 3) := by decide +kernel
theorem dX6_changed_39 : decode cX6_changed 39 = .ok (.aload 4, 2) := by decide +kernel
theorem dX6_changed_41 : decode cX6_changed 41 = .ok (.iload 6, 2) := by decide +kernel
theorem dX6_changed_43 : decode cX6_changed 43 = .ok (.invokevirtual 40, 3) := by decide +kernel
theorem dX6_changed_46 : decode cX6_changed 46 = .ok (.if_icmp .eq 6, 3) := by decide +kernel
theorem dX6_changed_49 : decode cX6_changed 49 = .ok (.iinc 5 1, 3) := by decide +kernel
theorem dX6_changed_52 : decode cX6_changed 52 = .ok (.iinc 6 1, 3) := by decide +kernel
theorem dX6_changed_55 : decode cX6_changed 55 = .ok (.goto (-30), 3) := by decide +kernel
theorem dX6_changed_58 : decode cX6_changed 58 = .ok (.iload 5, 2) := by decide +kernel
theorem dX6_changed_60 : decode cX6_changed 60 = .ok (.ireturn, 1) := by decide +kernel
theorem dX6_datasets_0 : decode cX6_datasets 0 = .ok (.aload_n 0, 1) := by decide +kernel
theorem dX6_datasets_1 : decode cX6_datasets 1 = .ok (.getfield 12, 3) := by decide +kernel
theorem dX6_datasets_4 : decode cX6_datasets 4 = .ok (.invokevirtual 173, 3) := by decide +kernel
theorem dX6_datasets_7 : decode cX6_datasets 7 = .ok (.ireturn, 1) := by decide +kernel
theorem dX6_makeClone_0 : decode cX6_makeClone 0 = .ok (.aload_n 0, 1) := by decide +kernel
theorem dX6_makeClone_1 : decode cX6_makeClone 1 = .ok (.iload_n 1, 1) := by decide +kernel
theorem dX6_makeClone_2 : decode cX6_makeClone 2 = .ok (.invokevirtual 124, 3) := by decide +kernel
theorem dX6_makeClone_5 : decode cX6_makeClone 5 = .ok (.astore_n 2, 1) := by decide +kernel
theorem dX6_makeClone_6 : decode cX6_makeClone 6 = .ok (.aload_n 0, 1) := by decide +kernel
theorem dX6_makeClone_7 : decode cX6_makeClone 7 = .ok (.getfield 12, 3) := by decide +kernel
theorem dX6_makeClone_10 : decode cX6_makeClone 10 = .ok (.invokevirtual 176, 3) := by decide +kernel
theorem dX6_makeClone_13 : decode cX6_makeClone 13 = .ok (.istore_n 3, 1) := by decide +kernel
theorem dX6_makeClone_14 : decode cX6_makeClone 14 = .ok (.iload_n 3, 1) := by decide +kernel
theorem dX6_makeClone_15 : decode cX6_makeClone 15 = .ok (.iconst (-1), 1) := by decide +kernel
theorem dX6_makeClone_16 : decode cX6_makeClone 16 = .ok (.if_icmp .ne 13, 3) := by decide +kernel
theorem dX6_makeClone_19 : decode cX6_makeClone 19 = .ok (.new 71, 3) := by decide +kernel
theorem dX6_makeClone_22 : decode cX6_makeClone 22 = .ok (.dup, 1) := by decide +kernel
theorem dX6_makeClone_23 : decode cX6_makeClone 23 = .ok (.ldc 179, 2) := by decide +kernel
theorem dX6_makeClone_25 : decode cX6_makeClone 25 = .ok (.invokespecial 75, 3) := by decide +kernel
theorem dX6_makeClone_28 : decode cX6_makeClone 28 = .ok (.athrow, 1) := by decide +kernel
theorem dX6_makeClone_29 : decode cX6_makeClone 29 = .ok (.aload_n 0, 1) := by decide +kernel
theorem dX6_makeClone_30 : decode cX6_makeClone 30 = .ok (.getfield 12, 3) := by decide +kernel
theorem dX6_makeClone_33 : decode cX6_makeClone 33 = .ok (.iload_n 3, 1) := by decide +kernel
theorem dX6_makeClone_34 : decode cX6_makeClone 34 = .ok (.aload_n 2, 1) := by decide +kernel
theorem dX6_makeClone_35 : decode cX6_makeClone 35 = .ok (.invokevirtual 181, 3) := by decide +kernel
theorem dX6_makeClone_38 : decode cX6_makeClone 38 = .ok (.iload_n 3, 1) := by decide +kernel
theorem dX6_makeClone_39 : decode cX6_makeClone 39 = .ok (.ireturn, 1) := by decide +kernel
theorem dX6_origin_0 : decode cX6_origin 0 = .ok (.aload_n 0, 1) := by decide +kernel
theorem dX6_origin_1 : decode cX6_origin 1 = .ok (.iload_n 1, 1) := by decide +kernel
theorem dX6_origin_2 : decode cX6_origin 2 = .ok (.invokevirtual 26, 3) := by decide +kernel
theorem dX6_origin_5 : decode cX6_origin 5 = .ok (.getfield 185, 3) := by decide +kernel
theorem dX6_origin_8 : decode cX6_origin 8 = .ok (.ireturn, 1) := by decide +kernel
theorem dX6_promote_0 : decode cX6_promote 0 = .ok (.aload_n 0, 1) := by decide +kernel
theorem dX6_promote_1 : decode cX6_promote 1 = .ok (.iload_n 1, 1) := by decide +kernel
theorem dX6_promote_2 : decode cX6_promote 2 = .ok (.invokevirtual 26, 3) := by decide +kernel
theorem dX6_promote_5 : decode cX6_promote 5 = .ok (.astore_n 2, 1) := by decide +kernel
theorem dX6_promote_6 : decode cX6_promote 6 = .ok (.aload_n 0, 1) := by decide +kernel
theorem dX6_promote_7 : decode cX6_promote 7 = .ok (.getfield 12, 3) := by decide +kernel
theorem dX6_promote_10 : decode cX6_promote 10 = .ok (.aload_n 2, 1) := by decide +kernel
theorem dX6_promote_11 : decode cX6_promote 11 = .ok (.getfield 185, 3) := by decide +kernel
theorem dX6_promote_14 : decode cX6_promote 14 = .ok (.invokevirtual 188, 3) := by decide +kernel
theorem dX6_promote_17 : decode cX6_promote 17 = .ok (.astore_n 3, 1) := by decide +kernel
theorem dX6_promote_18 : decode cX6_promote 18 = .ok (.aload_n 3, 1) := by decide +kernel
theorem dX6_promote_19 : decode cX6_promote 19 = .ok (.ifnonnull 13, 3) := by decide +kernel
theorem dX6_promote_22 : decode cX6_promote 22 = .ok (.new 71, 3) := by decide +kernel
theorem dX6_promote_25 : decode cX6_promote 25 = .ok (.dup, 1) := by decide +kernel
theorem dX6_promote_26 : decode cX6_promote 26 = .ok (.ldc 191, 2) := by decide +kernel
theorem dX6_promote_28 : decode cX6_promote 28 = .ok (.invokespecial 75, 3) := by decide +kernel
theorem dX6_promote_31 : decode cX6_promote 31 = .ok (.athrow, 1) := by decide +kernel
theorem dX6_promote_32 : decode cX6_promote 32 = .ok (.aload_n 0, 1) := by decide +kernel
theorem dX6_promote_33 : decode cX6_promote 33 = .ok (.getfield 12, 3) := by decide +kernel
theorem dX6_promote_36 : decode cX6_promote 36 = .ok (.aload_n 3, 1) := by decide +kernel
theorem dX6_promote_37 : decode cX6_promote 37 = .ok (.getfield 132, 3) := by decide +kernel
theorem dX6_promote_40 : decode cX6_promote 40 = .ok (.invokevirtual 193, 3) := by decide +kernel
theorem dX6_promote_43 : decode cX6_promote 43 = .ok (.astore 4, 2) := by decide +kernel
theorem dX6_promote_45 : decode cX6_promote 45 = .ok (.aload 4, 2) := by decide +kernel
theorem dX6_promote_47 : decode cX6_promote 47 = .ok (.ifnull 30, 3) := by decide +kernel
theorem dX6_promote_50 : decode cX6_promote 50 = .ok (.aload_n 0, 1) := by decide +kernel
theorem dX6_promote_51 : decode cX6_promote 51 = .ok (.getfield 12, 3) := by decide +kernel
theorem dX6_promote_54 : decode cX6_promote 54 = .ok (.aload_n 3, 1) := by decide +kernel
theorem dX6_promote_55 : decode cX6_promote 55 = .ok (.iload_n 1, 1) := by decide +kernel
theorem dX6_promote_56 : decode cX6_promote 56 = .ok (.invokevirtual 196, 3) := by decide +kernel
theorem dX6_promote_59 : decode cX6_promote 59 = .ok (.aload_n 2, 1) := by decide +kernel
theorem dX6_promote_60 : decode cX6_promote 60 = .ok (.aload 4, 2) := by decide +kernel
theorem dX6_promote_62 : decode cX6_promote 62 = .ok (.getfield 185, 3) := by decide +kernel
theorem dX6_promote_65 : decode cX6_promote 65 = .ok (.putfield 185, 3) := by decide +kernel
theorem dX6_promote_68 : decode cX6_promote 68 = .ok (.aload 4, 2) := by decide +kernel
theorem dX6_promote_70 : decode cX6_promote 70 = .ok (.aload_n 3, 1) := by decide +kernel
theorem dX6_promote_71 : decode cX6_promote 71 = .ok (.getfield 121, 3) := by decide +kernel
theorem dX6_promote_74 : decode cX6_promote 74 = .ok (.putfield 185, 3) := by decide +kernel
theorem dX6_promote_77 : decode cX6_promote 77 = .ok (.aload_n 0, 1) := by decide +kernel
theorem dX6_promote_78 : decode cX6_promote 78 = .ok (.getfield 12, 3) := by decide +kernel
theorem dX6_promote_81 : decode cX6_promote 81 = .ok (.iload_n 1, 1) := by decide +kernel
theorem dX6_promote_82 : decode cX6_promote 82 = .ok (.invokevirtual 135, 3) := by decide +kernel
theorem dX6_promote_85 : decode cX6_promote 85 = .ok (.ireturn, 1) := by decide +kernel
theorem dX6_destroy_0 : decode cX6_destroy 0 = .ok (.aload_n 0, 1) := by decide +kernel
theorem dX6_destroy_1 : decode cX6_destroy 1 = .ok (.iload_n 1, 1) := by decide +kernel
theorem dX6_destroy_2 : decode cX6_destroy 2 = .ok (.invokevirtual 26, 3) := by decide +kernel
theorem dX6_destroy_5 : decode cX6_destroy 5 = .ok (.astore_n 2, 1) := by decide +kernel
theorem dX6_destroy_6 : decode cX6_destroy 6 = .ok (.aload_n 0, 1) := by decide +kernel
theorem dX6_destroy_7 : decode cX6_destroy 7 = .ok (.getfield 12, 3) := by decide +kernel
theorem dX6_destroy_10 : decode cX6_destroy 10 = .ok (.iload_n 1, 1) := by decide +kernel
theorem dX6_destroy_11 : decode cX6_destroy 11 = .ok (.invokevirtual 135, 3) := by decide +kernel
theorem dX6_destroy_14 : decode cX6_destroy 14 = .ok (.ifCond .le 13, 3) := by decide +kernel
theorem dX6_destroy_17 : decode cX6_destroy 17 = .ok (.new 71, 3) := by decide +kernel
theorem dX6_destroy_20 : decode cX6_destroy 20 = .ok (.dup, 1) := by decide +kernel
theorem dX6_destroy_21 : decode cX6_destroy 21 = .ok (.ldc 200, 2) := by decide +kernel
theorem dX6_destroy_23 : decode cX6_destroy 23 = .ok (.invokespecial 75, 3) := by decide +kernel
theorem dX6_destroy_26 : decode cX6_destroy 26 = .ok (.athrow, 1) := by decide +kernel
theorem dX6_destroy_27 : decode cX6_destroy 27 = .ok (.aload_n 0, 1) := by decide +kernel
theorem dX6_destroy_28 : decode cX6_destroy 28 = .ok (.getfield 12, 3) := by decide +kernel
theorem dX6_destroy_31 : decode cX6_destroy 31 = .ok (.invokevirtual 173, 3) := by decide +kernel
theorem dX6_destroy_34 : decode cX6_destroy 34 = .ok (.iconst 1, 1) := by decide +kernel
theorem dX6_destroy_35 : decode cX6_destroy 35 = .ok (.if_icmp .ne 13, 3) := by decide +kernel
theorem dX6_destroy_38 : decode cX6_destroy 38 = .ok (.new 71, 3) := by decide +kernel
theorem dX6_destroy_41 : decode cX6_destroy 41 = .ok (.dup, 1) := by decide +kernel
theorem dX6_destroy_42 : decode cX6_destroy 42 = .ok (.ldc 202, 2) := by decide +kernel
theorem dX6_destroy_44 : decode cX6_destroy 44 = .ok (.invokespecial 75, 3) := by decide +kernel
theorem dX6_destroy_47 : decode cX6_destroy 47 = .ok (.athrow, 1) := by decide +kernel
theorem dX6_destroy_48 : decode cX6_destroy 48 = .ok (.aload_n 0, 1) := by decide +kernel
theorem dX6_destroy_49 : decode cX6_destroy 49 = .ok (.getfield 12, 3) := by decide +kernel
theorem dX6_destroy_52 : decode cX6_destroy 52 = .ok (.aload_n 2, 1) := by decide +kernel
theorem dX6_destroy_53 : decode cX6_destroy 53 = .ok (.getfield 30, 3) := by decide +kernel
theorem dX6_destroy_56 : decode cX6_destroy 56 = .ok (.invokevirtual 204, 3) := by decide +kernel
theorem dX6_destroy_59 : decode cX6_destroy 59 = .ok (.aload_n 2, 1) := by decide +kernel
theorem dX6_destroy_60 : decode cX6_destroy 60 = .ok (.iconst 0, 1) := by decide +kernel
theorem dX6_destroy_61 : decode cX6_destroy 61 = .ok (.putfield 208, 3) := by decide +kernel
theorem dX6_destroy_64 : decode cX6_destroy 64 = .ok (.aload_n 2, 1) := by decide +kernel
theorem dX6_destroy_65 : decode cX6_destroy 65 = .ok (.iconst (-1), 1) := by decide +kernel
theorem dX6_destroy_66 : decode cX6_destroy 66 = .ok (.putfield 185, 3) := by decide +kernel
theorem dX6_destroy_69 : decode cX6_destroy 69 = .ok (.aload_n 0, 1) := by decide +kernel
theorem dX6_destroy_70 : decode cX6_destroy 70 = .ok (.getfield 12, 3) := by decide +kernel
theorem dX6_destroy_73 : decode cX6_destroy 73 = .ok (.invokevirtual 86, 3) := by decide +kernel
theorem dX6_destroy_76 : decode cX6_destroy 76 = .ok (.ireturn, 1) := by decide +kernel
theorem dX6_referenced_0 : decode cX6_referenced 0 = .ok (.aload_n 0, 1) := by decide +kernel
theorem dX6_referenced_1 : decode cX6_referenced 1 = .ok (.aload_n 0, 1) := by decide +kernel
theorem dX6_referenced_2 : decode cX6_referenced 2 = .ok (.iload_n 1, 1) := by decide +kernel
theorem dX6_referenced_3 : decode cX6_referenced 3 = .ok (.invokevirtual 26, 3) := by decide +kernel
theorem dX6_referenced_6 : decode cX6_referenced 6 = .ok (.getfield 30, 3) := by decide +kernel
theorem dX6_referenced_9 : decode cX6_referenced 9 = .ok (.invokevirtual 212, 3) := by decide +kernel
theorem dX6_referenced_12 : decode cX6_referenced 12 = .ok (.iconst 0, 1) := by decide +kernel
theorem dX6_referenced_13 : decode cX6_referenced 13 = .ok (.istore_n 2, 1) := by decide +kernel
theorem dX6_referenced_14 : decode cX6_referenced 14 = .ok (.iconst 0, 1) := by decide +kernel
theorem dX6_referenced_15 : decode cX6_referenced 15 = .ok (.istore_n 3, 1) := by decide +kernel
theorem dX6_referenced_16 : decode cX6_referenced 16 = .ok (.iload_n 3, 1) := by decide +kernel
theorem dX6_referenced_17 : decode cX6_referenced 17 = .ok (.aload_n 0, 1) := by decide +kernel
theorem dX6_referenced_18 : decode cX6_referenced 18 = .ok (.getfield 23, 3) := by decide +kernel
theorem dX6_referenced_21 : decode cX6_referenced 21 = .ok (.arraylength, 1) := by decide +kernel
theorem dX6_referenced_22 : decode cX6_referenced 22 = .ok (.if_icmp .ge 21, 3) := by decide +kernel
theorem dX6_referenced_25 : decode cX6_referenced 25 = .ok (.aload_n 0, 1) := by decide +kernel
theorem dX6_referenced_26 : decode cX6_referenced 26 = .ok (.getfield 23, 3) := by decide +kernel
theorem dX6_referenced_29 : decode cX6_referenced 29 = .ok (.iload_n 3, 1) := by decide +kernel
theorem dX6_referenced_30 : decode cX6_referenced 30 = .ok (.iaload, 1) := by decide +kernel
theorem dX6_referenced_31 : decode cX6_referenced 31 = .ok (.ifCond .le 6, 3) := by decide +kernel
theorem dX6_referenced_34 : decode cX6_referenced 34 = .ok (.iinc 2 1, 3) := by decide +kernel
theorem dX6_referenced_37 : decode cX6_referenced 37 = .ok (.iinc 3 1, 3) := by decide +kernel
theorem dX6_referenced_40 : decode cX6_referenced 40 = .ok (.goto (-24), 3) := by decide +kernel
theorem dX6_referenced_43 : decode cX6_referenced 43 = .ok (.iload_n 2, 1) := by decide +kernel
theorem dX6_referenced_44 : decode cX6_referenced 44 = .ok (.ireturn, 1) := by decide +kernel
theorem dX6_unique_0 : decode cX6_unique 0 = .ok (.aload_n 0, 1) := by decide +kernel
theorem dX6_unique_1 : decode cX6_unique 1 = .ok (.aload_n 0, 1) := by decide +kernel
theorem dX6_unique_2 : decode cX6_unique 2 = .ok (.iload_n 1, 1) := by decide +kernel
theorem dX6_unique_3 : decode cX6_unique 3 = .ok (.invokevirtual 26, 3) := by decide +kernel
theorem dX6_unique_6 : decode cX6_unique 6 = .ok (.getfield 30, 3) := by decide +kernel
theorem dX6_unique_9 : decode cX6_unique 9 = .ok (.invokevirtual 215, 3) := by decide +kernel
theorem dX6_unique_12 : decode cX6_unique 12 = .ok (.ireturn, 1) := by decide +kernel
theorem dX6_uniqueOfSnapshot_0 : decode cX6_uniqueOfSnapshot 0 = .ok (.aload_n 0, 1) := by decide +kernel
theorem dX6_uniqueOfSnapshot_1 : decode cX6_uniqueOfSnapshot 1 = .ok (.aload_n 0, 1) := by decide +kernel
theorem dX6_uniqueOfSnapshot_2 : decode cX6_uniqueOfSnapshot 2 = .ok (.iload_n 1, 1) := by decide +kernel
theorem dX6_uniqueOfSnapshot_3 : decode cX6_uniqueOfSnapshot 3 = .ok (.invokevirtual 124, 3) := by decide +kernel
theorem dX6_uniqueOfSnapshot_6 : decode cX6_uniqueOfSnapshot 6 = .ok (.getfield 128, 3) := by decide +kernel
theorem dX6_uniqueOfSnapshot_9 : decode cX6_uniqueOfSnapshot 9 = .ok (.invokevirtual 215, 3) := by decide +kernel
theorem dX6_uniqueOfSnapshot_12 : decode cX6_uniqueOfSnapshot 12 = .ok (.ireturn, 1) := by decide +kernel
theorem dX6_newer_0 : decode cX6_newer 0 = .ok (.aload_n 0, 1) := by decide +kernel
theorem dX6_newer_1 : decode cX6_newer 1 = .ok (.iload_n 1, 1) := by decide +kernel
theorem dX6_newer_2 : decode cX6_newer 2 = .ok (.invokevirtual 26, 3) := by decide +kernel
theorem dX6_newer_5 : decode cX6_newer 5 = .ok (.getfield 30, 3) := by decide +kernel
theorem dX6_newer_8 : decode cX6_newer 8 = .ok (.astore_n 3, 1) := by decide +kernel
theorem dX6_newer_9 : decode cX6_newer 9 = .ok (.iconst 0, 1) := by decide +kernel
theorem dX6_newer_10 : decode cX6_newer 10 = .ok (.istore 4, 2) := by decide +kernel
theorem dX6_newer_12 : decode cX6_newer 12 = .ok (.iconst 0, 1) := by decide +kernel
theorem dX6_newer_13 : decode cX6_newer 13 = .ok (.istore 5, 2) := by decide +kernel
theorem dX6_newer_15 : decode cX6_newer 15 = .ok (.iload 5, 2) := by decide +kernel
theorem dX6_newer_17 : decode cX6_newer 17 = .ok (.sipush 128, 3) := by decide +kernel
theorem dX6_newer_20 : decode cX6_newer 20 = .ok (.if_icmp .ge 42, 3) := by decide +kernel
theorem dX6_newer_23 : decode cX6_newer 23 = .ok (.aload_n 3, 1) := by decide +kernel
theorem dX6_newer_24 : decode cX6_newer 24 = .ok (.iload 5, 2) := by decide +kernel
theorem dX6_newer_26 : decode cX6_newer 26 = .ok (.invokevirtual 40, 3) := by decide +kernel
theorem dX6_newer_29 : decode cX6_newer 29 = .ok (.istore 6, 2) := by decide +kernel
theorem dX6_newer_31 : decode cX6_newer 31 = .ok (.iload 6, 2) := by decide +kernel
theorem dX6_newer_33 : decode cX6_newer 33 = .ok (.iconst (-1), 1) := by decide +kernel
theorem dX6_newer_34 : decode cX6_newer 34 = .ok (.if_icmp .eq 22, 3) := by decide +kernel
theorem dX6_newer_37 : decode cX6_newer 37 = .ok (.aload_n 0, 1) := by decide +kernel
theorem dX6_newer_38 : decode cX6_newer 38 = .ok (.getfield 12, 3) := by decide +kernel
theorem dX6_newer_41 : decode cX6_newer 41 = .ok (.getfield 46, 3) := by decide +kernel
theorem dX6_newer_44 : decode cX6_newer 44 = .ok (.iload 6, 2) := by decide +kernel
theorem dX6_newer_46 : decode cX6_newer 46 = .ok (.invokevirtual 219, 3) := by decide +kernel
theorem dX6_newer_49 : decode cX6_newer 49 = .ok (.iload_n 2, 1) := by decide +kernel
theorem dX6_newer_50 : decode cX6_newer 50 = .ok (.if_icmp .le 6, 3) := by decide +kernel
theorem dX6_newer_53 : decode cX6_newer 53 = .ok (.iinc 4 1, 3) := by decide +kernel
theorem dX6_newer_56 : decode cX6_newer 56 = .ok (.iinc 5 1, 3) := by decide +kernel
theorem dX6_newer_59 : decode cX6_newer 59 = .ok (.goto (-44), 3) := by decide +kernel
theorem dX6_newer_62 : decode cX6_newer 62 = .ok (.iload 4, 2) := by decide +kernel
theorem dX6_newer_64 : decode cX6_newer 64 = .ok (.ireturn, 1) := by decide +kernel
theorem dX6_birth_0 : decode cX6_birth 0 = .ok (.iload_n 1, 1) := by decide +kernel
theorem dX6_birth_1 : decode cX6_birth 1 = .ok (.invokestatic 222, 3) := by decide +kernel
theorem dX6_birth_4 : decode cX6_birth 4 = .ok (.aload_n 0, 1) := by decide +kernel
theorem dX6_birth_5 : decode cX6_birth 5 = .ok (.getfield 12, 3) := by decide +kernel
theorem dX6_birth_8 : decode cX6_birth 8 = .ok (.getfield 46, 3) := by decide +kernel
theorem dX6_birth_11 : decode cX6_birth 11 = .ok (.iload_n 1, 1) := by decide +kernel
theorem dX6_birth_12 : decode cX6_birth 12 = .ok (.invokevirtual 226, 3) := by decide +kernel
theorem dX6_birth_15 : decode cX6_birth 15 = .ok (.ifCond .ne 13, 3) := by decide +kernel
theorem dX6_birth_18 : decode cX6_birth 18 = .ok (.new 71, 3) := by decide +kernel
theorem dX6_birth_21 : decode cX6_birth 21 = .ok (.dup, 1) := by decide +kernel
theorem dX6_birth_22 : decode cX6_birth 22 = .ok (.ldc 229, 2) := by decide +kernel
theorem dX6_birth_24 : decode cX6_birth 24 = .ok (.invokespecial 75, 3) := by decide +kernel
theorem dX6_birth_27 : decode cX6_birth 27 = .ok (.athrow, 1) := by decide +kernel
theorem dX6_birth_28 : decode cX6_birth 28 = .ok (.aload_n 0, 1) := by decide +kernel
theorem dX6_birth_29 : decode cX6_birth 29 = .ok (.getfield 12, 3) := by decide +kernel
theorem dX6_birth_32 : decode cX6_birth 32 = .ok (.getfield 46, 3) := by decide +kernel
theorem dX6_birth_35 : decode cX6_birth 35 = .ok (.iload_n 1, 1) := by decide +kernel
theorem dX6_birth_36 : decode cX6_birth 36 = .ok (.invokevirtual 219, 3) := by decide +kernel
theorem dX6_birth_39 : decode cX6_birth 39 = .ok (.ireturn, 1) := by decide +kernel
theorem dX6_references_0 : decode cX6_references 0 = .ok (.iload_n 1, 1) := by decide +kernel
theorem dX6_references_1 : decode cX6_references 1 = .ok (.invokestatic 222, 3) := by decide +kernel
theorem dX6_references_4 : decode cX6_references 4 = .ok (.aload_n 0, 1) := by decide +kernel
theorem dX6_references_5 : decode cX6_references 5 = .ok (.getfield 12, 3) := by decide +kernel
theorem dX6_references_8 : decode cX6_references 8 = .ok (.getfield 46, 3) := by decide +kernel
theorem dX6_references_11 : decode cX6_references 11 = .ok (.iload_n 1, 1) := by decide +kernel
theorem dX6_references_12 : decode cX6_references 12 = .ok (.invokevirtual 60, 3) := by decide +kernel
theorem dX6_references_15 : decode cX6_references 15 = .ok (.ireturn, 1) := by decide +kernel
theorem dX6_free_0 : decode cX6_free 0 = .ok (.aload_n 0, 1) := by decide +kernel
theorem dX6_free_1 : decode cX6_free 1 = .ok (.getfield 12, 3) := by decide +kernel
theorem dX6_free_4 : decode cX6_free 4 = .ok (.getfield 46, 3) := by decide +kernel
theorem dX6_free_7 : decode cX6_free 7 = .ok (.iconst 0, 1) := by decide +kernel
theorem dX6_free_8 : decode cX6_free 8 = .ok (.iconst 0, 1) := by decide +kernel
theorem dX6_free_9 : decode cX6_free 9 = .ok (.sipush 128, 3) := by decide +kernel
theorem dX6_free_12 : decode cX6_free 12 = .ok (.invokevirtual 231, 3) := by decide +kernel
theorem dX6_free_15 : decode cX6_free 15 = .ok (.ireturn, 1) := by decide +kernel
theorem dX6_pending_0 : decode cX6_pending 0 = .ok (.aload_n 0, 1) := by decide +kernel
theorem dX6_pending_1 : decode cX6_pending 1 = .ok (.getfield 12, 3) := by decide +kernel
theorem dX6_pending_4 : decode cX6_pending 4 = .ok (.getfield 46, 3) := by decide +kernel
theorem dX6_pending_7 : decode cX6_pending 7 = .ok (.iconst 2, 1) := by decide +kernel
theorem dX6_pending_8 : decode cX6_pending 8 = .ok (.iconst 0, 1) := by decide +kernel
theorem dX6_pending_9 : decode cX6_pending 9 = .ok (.sipush 128, 3) := by decide +kernel
theorem dX6_pending_12 : decode cX6_pending 12 = .ok (.invokevirtual 231, 3) := by decide +kernel
theorem dX6_pending_15 : decode cX6_pending 15 = .ok (.ireturn, 1) := by decide +kernel
theorem dX6_freeIn_0 : decode cX6_freeIn 0 = .ok (.iload_n 1, 1) := by decide +kernel
theorem dX6_freeIn_1 : decode cX6_freeIn 1 = .ok (.invokestatic 235, 3) := by decide +kernel
theorem dX6_freeIn_4 : decode cX6_freeIn 4 = .ok (.aload_n 0, 1) := by decide +kernel
theorem dX6_freeIn_5 : decode cX6_freeIn 5 = .ok (.getfield 12, 3) := by decide +kernel
theorem dX6_freeIn_8 : decode cX6_freeIn 8 = .ok (.getfield 46, 3) := by decide +kernel
theorem dX6_freeIn_11 : decode cX6_freeIn 11 = .ok (.iload_n 1, 1) := by decide +kernel
theorem dX6_freeIn_12 : decode cX6_freeIn 12 = .ok (.invokevirtual 238, 3) := by decide +kernel
theorem dX6_freeIn_15 : decode cX6_freeIn 15 = .ok (.ireturn, 1) := by decide +kernel
theorem dX6_logEntries_0 : decode cX6_logEntries 0 = .ok (.aload_n 0, 1) := by decide +kernel
theorem dX6_logEntries_1 : decode cX6_logEntries 1 = .ok (.iload_n 1, 1) := by decide +kernel
theorem dX6_logEntries_2 : decode cX6_logEntries 2 = .ok (.invokevirtual 241, 3) := by decide +kernel
theorem dX6_logEntries_5 : decode cX6_logEntries 5 = .ok (.getfield 245, 3) := by decide +kernel
theorem dX6_logEntries_8 : decode cX6_logEntries 8 = .ok (.ireturn, 1) := by decide +kernel
theorem dX6_runAt_0 : decode cX6_runAt 0 = .ok (.aload_n 0, 1) := by decide +kernel
theorem dX6_runAt_1 : decode cX6_runAt 1 = .ok (.iload_n 1, 1) := by decide +kernel
theorem dX6_runAt_2 : decode cX6_runAt 2 = .ok (.iload_n 2, 1) := by decide +kernel
theorem dX6_runAt_3 : decode cX6_runAt 3 = .ok (.invokevirtual 250, 3) := by decide +kernel
theorem dX6_runAt_6 : decode cX6_runAt 6 = .ok (.astore_n 3, 1) := by decide +kernel
theorem dX6_runAt_7 : decode cX6_runAt 7 = .ok (.bipush 100, 2) := by decide +kernel
theorem dX6_runAt_9 : decode cX6_runAt 9 = .ok (.aload_n 3, 1) := by decide +kernel
theorem dX6_runAt_10 : decode cX6_runAt 10 = .ok (.iload_n 2, 1) := by decide +kernel
theorem dX6_runAt_11 : decode cX6_runAt 11 = .ok (.invokevirtual 254, 3) := by decide +kernel
theorem dX6_runAt_14 : decode cX6_runAt 14 = .ok (.imul, 1) := by decide +kernel
theorem dX6_runAt_15 : decode cX6_runAt 15 = .ok (.aload_n 3, 1) := by decide +kernel
theorem dX6_runAt_16 : decode cX6_runAt 16 = .ok (.iload_n 2, 1) := by decide +kernel
theorem dX6_runAt_17 : decode cX6_runAt 17 = .ok (.invokevirtual 257, 3) := by decide +kernel
theorem dX6_runAt_20 : decode cX6_runAt 20 = .ok (.iadd, 1) := by decide +kernel
theorem dX6_runAt_21 : decode cX6_runAt 21 = .ok (.ireturn, 1) := by decide +kernel
theorem dX6_allocates_0 : decode cX6_allocates 0 = .ok (.aload_n 0, 1) := by decide +kernel
theorem dX6_allocates_1 : decode cX6_allocates 1 = .ok (.iload_n 1, 1) := by decide +kernel
theorem dX6_allocates_2 : decode cX6_allocates 2 = .ok (.iload_n 2, 1) := by decide +kernel
theorem dX6_allocates_3 : decode cX6_allocates 3 = .ok (.invokevirtual 250, 3) := by decide +kernel
theorem dX6_allocates_6 : decode cX6_allocates 6 = .ok (.iload_n 2, 1) := by decide +kernel
theorem dX6_allocates_7 : decode cX6_allocates 7 = .ok (.invokevirtual 260, 3) := by decide +kernel
theorem dX6_allocates_10 : decode cX6_allocates 10 = .ok (.ireturn, 1) := by decide +kernel
theorem dX6_replay_0 : decode cX6_replay 0 = .ok (.aload_n 0, 1) := by decide +kernel
theorem dX6_replay_1 : decode cX6_replay 1 = .ok (.iload_n 1, 1) := by decide +kernel
theorem dX6_replay_2 : decode cX6_replay 2 = .ok (.invokevirtual 241, 3) := by decide +kernel
theorem dX6_replay_5 : decode cX6_replay 5 = .ok (.invokevirtual 263, 3) := by decide +kernel
theorem dX6_replay_8 : decode cX6_replay 8 = .ok (.ireturn, 1) := by decide +kernel
theorem dX6_condensed_0 : decode cX6_condensed 0 = .ok (.aload_n 0, 1) := by decide +kernel
theorem dX6_condensed_1 : decode cX6_condensed 1 = .ok (.getfield 12, 3) := by decide +kernel
theorem dX6_condensed_4 : decode cX6_condensed 4 = .ok (.getfield 266, 3) := by decide +kernel
theorem dX6_condensed_7 : decode cX6_condensed 7 = .ok (.ireturn, 1) := by decide +kernel
theorem dX6_datasetOrThrow_0 : decode cX6_datasetOrThrow 0 = .ok (.aload_n 0, 1) := by decide +kernel
theorem dX6_datasetOrThrow_1 : decode cX6_datasetOrThrow 1 = .ok (.getfield 12, 3) := by decide +kernel
theorem dX6_datasetOrThrow_4 : decode cX6_datasetOrThrow 4 = .ok (.iload_n 1, 1) := by decide +kernel
theorem dX6_datasetOrThrow_5 : decode cX6_datasetOrThrow 5 = .ok (.invokevirtual 193, 3) := by decide +kernel
theorem dX6_datasetOrThrow_8 : decode cX6_datasetOrThrow 8 = .ok (.astore_n 2, 1) := by decide +kernel
theorem dX6_datasetOrThrow_9 : decode cX6_datasetOrThrow 9 = .ok (.aload_n 2, 1) := by decide +kernel
theorem dX6_datasetOrThrow_10 : decode cX6_datasetOrThrow 10 = .ok (.ifnonnull 14, 3) := by decide +kernel
theorem dX6_datasetOrThrow_13 : decode cX6_datasetOrThrow 13 = .ok (.new 142, 3) := by decide +kernel
theorem dX6_datasetOrThrow_16 : decode cX6_datasetOrThrow 16 = .ok (.dup, 1) := by decide +kernel
theorem dX6_datasetOrThrow_17 : decode cX6_datasetOrThrow 17 = .ok (.ldc_w 269, 3) := by decide +kernel
theorem dX6_datasetOrThrow_20 : decode cX6_datasetOrThrow 20 = .ok (.invokespecial 146, 3) := by decide +kernel
theorem dX6_datasetOrThrow_23 : decode cX6_datasetOrThrow 23 = .ok (.athrow, 1) := by decide +kernel
theorem dX6_datasetOrThrow_24 : decode cX6_datasetOrThrow 24 = .ok (.aload_n 2, 1) := by decide +kernel
theorem dX6_datasetOrThrow_25 : decode cX6_datasetOrThrow 25 = .ok (.areturn, 1) := by decide +kernel
theorem dX6_snapshotOrThrow_0 : decode cX6_snapshotOrThrow 0 = .ok (.aload_n 0, 1) := by decide +kernel
theorem dX6_snapshotOrThrow_1 : decode cX6_snapshotOrThrow 1 = .ok (.getfield 12, 3) := by decide +kernel
theorem dX6_snapshotOrThrow_4 : decode cX6_snapshotOrThrow 4 = .ok (.iload_n 1, 1) := by decide +kernel
theorem dX6_snapshotOrThrow_5 : decode cX6_snapshotOrThrow 5 = .ok (.invokevirtual 188, 3) := by decide +kernel
theorem dX6_snapshotOrThrow_8 : decode cX6_snapshotOrThrow 8 = .ok (.astore_n 2, 1) := by decide +kernel
theorem dX6_snapshotOrThrow_9 : decode cX6_snapshotOrThrow 9 = .ok (.aload_n 2, 1) := by decide +kernel
theorem dX6_snapshotOrThrow_10 : decode cX6_snapshotOrThrow 10 = .ok (.ifnonnull 14, 3) := by decide +kernel
theorem dX6_snapshotOrThrow_13 : decode cX6_snapshotOrThrow 13 = .ok (.new 142, 3) := by decide +kernel
theorem dX6_snapshotOrThrow_16 : decode cX6_snapshotOrThrow 16 = .ok (.dup, 1) := by decide +kernel
theorem dX6_snapshotOrThrow_17 : decode cX6_snapshotOrThrow 17 = .ok (.ldc_w 271, 3) := by decide +kernel
theorem dX6_snapshotOrThrow_20 : decode cX6_snapshotOrThrow 20 = .ok (.invokespecial 146, 3) := by decide +kernel
theorem dX6_snapshotOrThrow_23 : decode cX6_snapshotOrThrow 23 = .ok (.athrow, 1) := by decide +kernel
theorem dX6_snapshotOrThrow_24 : decode cX6_snapshotOrThrow 24 = .ok (.aload_n 2, 1) := by decide +kernel
theorem dX6_snapshotOrThrow_25 : decode cX6_snapshotOrThrow 25 = .ok (.areturn, 1) := by decide +kernel
theorem dX6_placeOrThrow_0 : decode cX6_placeOrThrow 0 = .ok (.iload_n 0, 1) := by decide +kernel
theorem dX6_placeOrThrow_1 : decode cX6_placeOrThrow 1 = .ok (.ifCond .lt 9, 3) := by decide +kernel
theorem dX6_placeOrThrow_4 : decode cX6_placeOrThrow 4 = .ok (.iload_n 0, 1) := by decide +kernel
theorem dX6_placeOrThrow_5 : decode cX6_placeOrThrow 5 = .ok (.bipush 8, 2) := by decide +kernel
theorem dX6_placeOrThrow_7 : decode cX6_placeOrThrow 7 = .ok (.if_icmp .lt 14, 3) := by decide +kernel
theorem dX6_placeOrThrow_10 : decode cX6_placeOrThrow 10 = .ok (.new 142, 3) := by decide +kernel
theorem dX6_placeOrThrow_13 : decode cX6_placeOrThrow 13 = .ok (.dup, 1) := by decide +kernel
theorem dX6_placeOrThrow_14 : decode cX6_placeOrThrow 14 = .ok (.ldc_w 273, 3) := by decide +kernel
theorem dX6_placeOrThrow_17 : decode cX6_placeOrThrow 17 = .ok (.invokespecial 146, 3) := by decide +kernel
theorem dX6_placeOrThrow_20 : decode cX6_placeOrThrow 20 = .ok (.athrow, 1) := by decide +kernel
theorem dX6_placeOrThrow_21 : decode cX6_placeOrThrow 21 = .ok (.iload_n 1, 1) := by decide +kernel
theorem dX6_placeOrThrow_22 : decode cX6_placeOrThrow 22 = .ok (.ifCond .lt 9, 3) := by decide +kernel
theorem dX6_placeOrThrow_25 : decode cX6_placeOrThrow 25 = .ok (.iload_n 1, 1) := by decide +kernel
theorem dX6_placeOrThrow_26 : decode cX6_placeOrThrow 26 = .ok (.bipush 16, 2) := by decide +kernel
theorem dX6_placeOrThrow_28 : decode cX6_placeOrThrow 28 = .ok (.if_icmp .lt 14, 3) := by decide +kernel
theorem dX6_placeOrThrow_31 : decode cX6_placeOrThrow 31 = .ok (.new 142, 3) := by decide +kernel
theorem dX6_placeOrThrow_34 : decode cX6_placeOrThrow 34 = .ok (.dup, 1) := by decide +kernel
theorem dX6_placeOrThrow_35 : decode cX6_placeOrThrow 35 = .ok (.ldc_w 275, 3) := by decide +kernel
theorem dX6_placeOrThrow_38 : decode cX6_placeOrThrow 38 = .ok (.invokespecial 146, 3) := by decide +kernel
theorem dX6_placeOrThrow_41 : decode cX6_placeOrThrow 41 = .ok (.athrow, 1) := by decide +kernel
theorem dX6_placeOrThrow_42 : decode cX6_placeOrThrow 42 = .ok (.iload_n 0, 1) := by decide +kernel
theorem dX6_placeOrThrow_43 : decode cX6_placeOrThrow 43 = .ok (.bipush 16, 2) := by decide +kernel
theorem dX6_placeOrThrow_45 : decode cX6_placeOrThrow 45 = .ok (.imul, 1) := by decide +kernel
theorem dX6_placeOrThrow_46 : decode cX6_placeOrThrow 46 = .ok (.iload_n 1, 1) := by decide +kernel
theorem dX6_placeOrThrow_47 : decode cX6_placeOrThrow 47 = .ok (.iadd, 1) := by decide +kernel
theorem dX6_placeOrThrow_48 : decode cX6_placeOrThrow 48 = .ok (.ireturn, 1) := by decide +kernel
theorem dX6_blockOrThrow_0 : decode cX6_blockOrThrow 0 = .ok (.iload_n 0, 1) := by decide +kernel
theorem dX6_blockOrThrow_1 : decode cX6_blockOrThrow 1 = .ok (.ifCond .lt 10, 3) := by decide +kernel
theorem dX6_blockOrThrow_4 : decode cX6_blockOrThrow 4 = .ok (.iload_n 0, 1) := by decide +kernel
theorem dX6_blockOrThrow_5 : decode cX6_blockOrThrow 5 = .ok (.sipush 128, 3) := by decide +kernel
theorem dX6_blockOrThrow_8 : decode cX6_blockOrThrow 8 = .ok (.if_icmp .lt 14, 3) := by decide +kernel
theorem dX6_blockOrThrow_11 : decode cX6_blockOrThrow 11 = .ok (.new 142, 3) := by decide +kernel
theorem dX6_blockOrThrow_14 : decode cX6_blockOrThrow 14 = .ok (.dup, 1) := by decide +kernel
theorem dX6_blockOrThrow_15 : decode cX6_blockOrThrow 15 = .ok (.ldc_w 277, 3) := by decide +kernel
theorem dX6_blockOrThrow_18 : decode cX6_blockOrThrow 18 = .ok (.invokespecial 146, 3) := by decide +kernel
theorem dX6_blockOrThrow_21 : decode cX6_blockOrThrow 21 = .ok (.athrow, 1) := by decide +kernel
theorem dX6_blockOrThrow_22 : decode cX6_blockOrThrow 22 = .ok (.return_, 1) := by decide +kernel
theorem dX6_regionOrThrow_0 : decode cX6_regionOrThrow 0 = .ok (.iload_n 0, 1) := by decide +kernel
theorem dX6_regionOrThrow_1 : decode cX6_regionOrThrow 1 = .ok (.ifCond .lt 8, 3) := by decide +kernel
theorem dX6_regionOrThrow_4 : decode cX6_regionOrThrow 4 = .ok (.iload_n 0, 1) := by decide +kernel
theorem dX6_regionOrThrow_5 : decode cX6_regionOrThrow 5 = .ok (.iconst 4, 1) := by decide +kernel
theorem dX6_regionOrThrow_6 : decode cX6_regionOrThrow 6 = .ok (.if_icmp .lt 14, 3) := by decide +kernel
theorem dX6_regionOrThrow_9 : decode cX6_regionOrThrow 9 = .ok (.new 142, 3) := by decide +kernel
theorem dX6_regionOrThrow_12 : decode cX6_regionOrThrow 12 = .ok (.dup, 1) := by decide +kernel
theorem dX6_regionOrThrow_13 : decode cX6_regionOrThrow 13 = .ok (.ldc_w 279, 3) := by decide +kernel
theorem dX6_regionOrThrow_16 : decode cX6_regionOrThrow 16 = .ok (.invokespecial 146, 3) := by decide +kernel
theorem dX6_regionOrThrow_19 : decode cX6_regionOrThrow 19 = .ok (.athrow, 1) := by decide +kernel
theorem dX6_regionOrThrow_20 : decode cX6_regionOrThrow 20 = .ok (.return_, 1) := by decide +kernel
theorem dX6_logOrThrow_0 : decode cX6_logOrThrow 0 = .ok (.iload_n 1, 1) := by decide +kernel
theorem dX6_logOrThrow_1 : decode cX6_logOrThrow 1 = .ok (.ifCond .lt 15, 3) := by decide +kernel
theorem dX6_logOrThrow_4 : decode cX6_logOrThrow 4 = .ok (.iload_n 1, 1) := by decide +kernel
theorem dX6_logOrThrow_5 : decode cX6_logOrThrow 5 = .ok (.aload_n 0, 1) := by decide +kernel
theorem dX6_logOrThrow_6 : decode cX6_logOrThrow 6 = .ok (.getfield 12, 3) := by decide +kernel
theorem dX6_logOrThrow_9 : decode cX6_logOrThrow 9 = .ok (.getfield 281, 3) := by decide +kernel
theorem dX6_logOrThrow_12 : decode cX6_logOrThrow 12 = .ok (.arraylength, 1) := by decide +kernel
theorem dX6_logOrThrow_13 : decode cX6_logOrThrow 13 = .ok (.if_icmp .lt 14, 3) := by decide +kernel
theorem dX6_logOrThrow_16 : decode cX6_logOrThrow 16 = .ok (.new 142, 3) := by decide +kernel
theorem dX6_logOrThrow_19 : decode cX6_logOrThrow 19 = .ok (.dup, 1) := by decide +kernel
theorem dX6_logOrThrow_20 : decode cX6_logOrThrow 20 = .ok (.ldc_w 279, 3) := by decide +kernel
theorem dX6_logOrThrow_23 : decode cX6_logOrThrow 23 = .ok (.invokespecial 146, 3) := by decide +kernel
theorem dX6_logOrThrow_26 : decode cX6_logOrThrow 26 = .ok (.athrow, 1) := by decide +kernel
theorem dX6_logOrThrow_27 : decode cX6_logOrThrow 27 = .ok (.aload_n 0, 1) := by decide +kernel
theorem dX6_logOrThrow_28 : decode cX6_logOrThrow 28 = .ok (.getfield 12, 3) := by decide +kernel
theorem dX6_logOrThrow_31 : decode cX6_logOrThrow 31 = .ok (.getfield 281, 3) := by decide +kernel
theorem dX6_logOrThrow_34 : decode cX6_logOrThrow 34 = .ok (.iload_n 1, 1) := by decide +kernel
theorem dX6_logOrThrow_35 : decode cX6_logOrThrow 35 = .ok (.aaload, 1) := by decide +kernel
theorem dX6_logOrThrow_36 : decode cX6_logOrThrow 36 = .ok (.areturn, 1) := by decide +kernel
theorem dX6_logWithEntryOrThrow_0 : decode cX6_logWithEntryOrThrow 0 = .ok (.aload_n 0, 1) := by decide +kernel
theorem dX6_logWithEntryOrThrow_1 : decode cX6_logWithEntryOrThrow 1 = .ok (.iload_n 1, 1) := by decide +kernel
theorem dX6_logWithEntryOrThrow_2 : decode cX6_logWithEntryOrThrow 2 = .ok (.invokevirtual 241, 3) := by decide +kernel
theorem dX6_logWithEntryOrThrow_5 : decode cX6_logWithEntryOrThrow 5 = .ok (.astore_n 3, 1) := by decide +kernel
theorem dX6_logWithEntryOrThrow_6 : decode cX6_logWithEntryOrThrow 6 = .ok (.iload_n 2, 1) := by decide +kernel
theorem dX6_logWithEntryOrThrow_7 : decode cX6_logWithEntryOrThrow 7 = .ok (.ifCond .lt 11, 3) := by decide +kernel
theorem dX6_logWithEntryOrThrow_10 : decode cX6_logWithEntryOrThrow 10 = .ok (.iload_n 2, 1) := by decide +kernel
theorem dX6_logWithEntryOrThrow_11 : decode cX6_logWithEntryOrThrow 11 = .ok (.aload_n 3, 1) := by decide +kernel
theorem dX6_logWithEntryOrThrow_12 : decode cX6_logWithEntryOrThrow 12 = .ok (.getfield 245, 3) := by decide +kernel
theorem dX6_logWithEntryOrThrow_15 : decode cX6_logWithEntryOrThrow 15 = .ok (.if_icmp .lt 14, 3) := by decide +kernel
theorem dX6_logWithEntryOrThrow_18 : decode cX6_logWithEntryOrThrow 18 = .ok (.new 142, 3) := by decide +kernel
theorem dX6_logWithEntryOrThrow_21 : decode cX6_logWithEntryOrThrow 21 = .ok (.dup, 1) := by decide +kernel
theorem dX6_logWithEntryOrThrow_22 : decode cX6_logWithEntryOrThrow 22 = .ok (.ldc_w 285, 3) := by decide +kernel
theorem dX6_logWithEntryOrThrow_25 : decode cX6_logWithEntryOrThrow 25 = .ok (.invokespecial 146, 3) := by decide +kernel
theorem dX6_logWithEntryOrThrow_28 : decode cX6_logWithEntryOrThrow 28 = .ok (.athrow, 1) := by decide +kernel
theorem dX6_logWithEntryOrThrow_29 : decode cX6_logWithEntryOrThrow 29 = .ok (.aload_n 3, 1) := by decide +kernel
theorem dX6_logWithEntryOrThrow_30 : decode cX6_logWithEntryOrThrow 30 = .ok (.areturn, 1) := by decide +kernel
theorem dX6_fits_0 : decode cX6_fits 0 = .ok (.iload_n 1, 1) := by decide +kernel
theorem dX6_fits_1 : decode cX6_fits 1 = .ok (.iconst 1, 1) := by decide +kernel
theorem dX6_fits_2 : decode cX6_fits 2 = .ok (.if_icmp .lt 15, 3) := by decide +kernel
theorem dX6_fits_5 : decode cX6_fits 5 = .ok (.iload_n 1, 1) := by decide +kernel
theorem dX6_fits_6 : decode cX6_fits 6 = .ok (.bipush 16, 2) := by decide +kernel
theorem dX6_fits_8 : decode cX6_fits 8 = .ok (.iload_n 0, 1) := by decide +kernel
theorem dX6_fits_9 : decode cX6_fits 9 = .ok (.isub, 1) := by decide +kernel
theorem dX6_fits_10 : decode cX6_fits 10 = .ok (.if_icmp .gt 7, 3) := by decide +kernel
theorem dX6_fits_13 : decode cX6_fits 13 = .ok (.iconst 1, 1) := by decide +kernel
theorem dX6_fits_14 : decode cX6_fits 14 = .ok (.goto 4, 3) := by decide +kernel
theorem dX6_fits_17 : decode cX6_fits 17 = .ok (.iconst 0, 1) := by decide +kernel
theorem dX6_fits_18 : decode cX6_fits 18 = .ok (.ireturn, 1) := by decide +kernel
theorem dX6_take_0 : decode cX6_take 0 = .ok (.iconst 0, 1) := by decide +kernel
theorem dX6_take_1 : decode cX6_take 1 = .ok (.istore 4, 2) := by decide +kernel
theorem dX6_take_3 : decode cX6_take 3 = .ok (.iload 4, 2) := by decide +kernel
theorem dX6_take_5 : decode cX6_take 5 = .ok (.iload_n 3, 1) := by decide +kernel
theorem dX6_take_6 : decode cX6_take 6 = .ok (.if_icmp .ge 34, 3) := by decide +kernel
theorem dX6_take_9 : decode cX6_take 9 = .ok (.iload 4, 2) := by decide +kernel
theorem dX6_take_11 : decode cX6_take 11 = .ok (.aload_n 0, 1) := by decide +kernel
theorem dX6_take_12 : decode cX6_take 12 = .ok (.getfield 19, 3) := by decide +kernel
theorem dX6_take_15 : decode cX6_take 15 = .ok (.arraylength, 1) := by decide +kernel
theorem dX6_take_16 : decode cX6_take 16 = .ok (.if_icmp .ge 24, 3) := by decide +kernel
theorem dX6_take_19 : decode cX6_take 19 = .ok (.aload_n 0, 1) := by decide +kernel
theorem dX6_take_20 : decode cX6_take 20 = .ok (.getfield 19, 3) := by decide +kernel
theorem dX6_take_23 : decode cX6_take 23 = .ok (.iload 4, 2) := by decide +kernel
theorem dX6_take_25 : decode cX6_take 25 = .ok (.aload_n 1, 1) := by decide +kernel
theorem dX6_take_26 : decode cX6_take 26 = .ok (.iload_n 2, 1) := by decide +kernel
theorem dX6_take_27 : decode cX6_take 27 = .ok (.iload 4, 2) := by decide +kernel
theorem dX6_take_29 : decode cX6_take 29 = .ok (.iadd, 1) := by decide +kernel
theorem dX6_take_30 : decode cX6_take 30 = .ok (.invokevirtual 40, 3) := by decide +kernel
theorem dX6_take_33 : decode cX6_take 33 = .ok (.iastore, 1) := by decide +kernel
theorem dX6_take_34 : decode cX6_take 34 = .ok (.iinc 4 1, 3) := by decide +kernel
theorem dX6_take_37 : decode cX6_take 37 = .ok (.goto (-34), 3) := by decide +kernel
theorem dX6_take_40 : decode cX6_take 40 = .ok (.return_, 1) := by decide +kernel
theorem dX6_closeTransaction_0 : decode cX6_closeTransaction 0 = .ok (.aload_n 0, 1) := by decide +kernel
theorem dX6_closeTransaction_1 : decode cX6_closeTransaction 1 = .ok (.getfield 12, 3) := by decide +kernel
theorem dX6_closeTransaction_4 : decode cX6_closeTransaction 4 = .ok (.getfield 50, 3) := by decide +kernel
theorem dX6_closeTransaction_7 : decode cX6_closeTransaction 7 = .ok (.istore_n 1, 1) := by decide +kernel
theorem dX6_closeTransaction_8 : decode cX6_closeTransaction 8 = .ok (.aload_n 0, 1) := by decide +kernel
theorem dX6_closeTransaction_9 : decode cX6_closeTransaction 9 = .ok (.getfield 12, 3) := by decide +kernel
theorem dX6_closeTransaction_12 : decode cX6_closeTransaction 12 = .ok (.getfield 46, 3) := by decide +kernel
theorem dX6_closeTransaction_15 : decode cX6_closeTransaction 15 = .ok (.invokevirtual 287, 3) := by decide +kernel
theorem dX6_closeTransaction_18 : decode cX6_closeTransaction 18 = .ok (.iconst 0, 1) := by decide +kernel
theorem dX6_closeTransaction_19 : decode cX6_closeTransaction 19 = .ok (.istore_n 2, 1) := by decide +kernel
theorem dX6_closeTransaction_20 : decode cX6_closeTransaction 20 = .ok (.iload_n 2, 1) := by decide +kernel
theorem dX6_closeTransaction_21 : decode cX6_closeTransaction 21 = .ok (.aload_n 0, 1) := by decide +kernel
theorem dX6_closeTransaction_22 : decode cX6_closeTransaction 22 = .ok (.getfield 12, 3) := by decide +kernel
theorem dX6_closeTransaction_25 : decode cX6_closeTransaction 25 = .ok (.getfield 281, 3) := by decide +kernel
theorem dX6_closeTransaction_28 : decode cX6_closeTransaction 28 = .ok (.arraylength, 1) := by decide +kernel
theorem dX6_closeTransaction_29 : decode cX6_closeTransaction 29 = .ok (.if_icmp .ge 51, 3) := by decide +kernel
theorem dX6_closeTransaction_32 : decode cX6_closeTransaction 32 = .ok (.aload_n 0, 1) := by decide +kernel
theorem dX6_closeTransaction_33 : decode cX6_closeTransaction 33 = .ok (.getfield 12, 3) := by decide +kernel
theorem dX6_closeTransaction_36 : decode cX6_closeTransaction 36 = .ok (.getfield 281, 3) := by decide +kernel
theorem dX6_closeTransaction_39 : decode cX6_closeTransaction 39 = .ok (.iload_n 2, 1) := by decide +kernel
theorem dX6_closeTransaction_40 : decode cX6_closeTransaction 40 = .ok (.aaload, 1) := by decide +kernel
theorem dX6_closeTransaction_41 : decode cX6_closeTransaction 41 = .ok (.aload_n 0, 1) := by decide +kernel
theorem dX6_closeTransaction_42 : decode cX6_closeTransaction 42 = .ok (.getfield 12, 3) := by decide +kernel
theorem dX6_closeTransaction_45 : decode cX6_closeTransaction 45 = .ok (.getfield 46, 3) := by decide +kernel
theorem dX6_closeTransaction_48 : decode cX6_closeTransaction 48 = .ok (.aload_n 0, 1) := by decide +kernel
theorem dX6_closeTransaction_49 : decode cX6_closeTransaction 49 = .ok (.getfield 16, 3) := by decide +kernel
theorem dX6_closeTransaction_52 : decode cX6_closeTransaction 52 = .ok (.getfield 46, 3) := by decide +kernel
theorem dX6_closeTransaction_55 : decode cX6_closeTransaction 55 = .ok (.invokevirtual 290, 3) := by decide +kernel
theorem dX6_closeTransaction_58 : decode cX6_closeTransaction 58 = .ok (.ifCond .eq 16, 3) := by decide +kernel
theorem dX6_closeTransaction_61 : decode cX6_closeTransaction 61 = .ok (.aload_n 0, 1) := by decide +kernel
theorem dX6_closeTransaction_62 : decode cX6_closeTransaction 62 = .ok (.getfield 12, 3) := by decide +kernel
theorem dX6_closeTransaction_65 : decode cX6_closeTransaction 65 = .ok (.dup, 1) := by decide +kernel
theorem dX6_closeTransaction_66 : decode cX6_closeTransaction 66 = .ok (.getfield 266, 3) := by decide +kernel
theorem dX6_closeTransaction_69 : decode cX6_closeTransaction 69 = .ok (.iconst 1, 1) := by decide +kernel
theorem dX6_closeTransaction_70 : decode cX6_closeTransaction 70 = .ok (.iadd, 1) := by decide +kernel
theorem dX6_closeTransaction_71 : decode cX6_closeTransaction 71 = .ok (.putfield 266, 3) := by decide +kernel
theorem dX6_closeTransaction_74 : decode cX6_closeTransaction 74 = .ok (.iinc 2 1, 3) := by decide +kernel
theorem dX6_closeTransaction_77 : decode cX6_closeTransaction 77 = .ok (.goto (-57), 3) := by decide +kernel
theorem dX6_closeTransaction_80 : decode cX6_closeTransaction 80 = .ok (.aload_n 0, 1) := by decide +kernel
theorem dX6_closeTransaction_81 : decode cX6_closeTransaction 81 = .ok (.getfield 12, 3) := by decide +kernel
theorem dX6_closeTransaction_84 : decode cX6_closeTransaction 84 = .ok (.iload_n 1, 1) := by decide +kernel
theorem dX6_closeTransaction_85 : decode cX6_closeTransaction 85 = .ok (.iconst 1, 1) := by decide +kernel
theorem dX6_closeTransaction_86 : decode cX6_closeTransaction 86 = .ok (.iadd, 1) := by decide +kernel
theorem dX6_closeTransaction_87 : decode cX6_closeTransaction 87 = .ok (.putfield 50, 3) := by decide +kernel
theorem dX6_closeTransaction_90 : decode cX6_closeTransaction 90 = .ok (.aload_n 0, 1) := by decide +kernel
theorem dX6_closeTransaction_91 : decode cX6_closeTransaction 91 = .ok (.getfield 16, 3) := by decide +kernel
theorem dX6_closeTransaction_94 : decode cX6_closeTransaction 94 = .ok (.aload_n 0, 1) := by decide +kernel
theorem dX6_closeTransaction_95 : decode cX6_closeTransaction 95 = .ok (.getfield 12, 3) := by decide +kernel
theorem dX6_closeTransaction_98 : decode cX6_closeTransaction 98 = .ok (.invokevirtual 108, 3) := by decide +kernel
theorem dX6_closeTransaction_101 : decode cX6_closeTransaction 101 = .ok (.iload_n 1, 1) := by decide +kernel
theorem dX6_closeTransaction_102 : decode cX6_closeTransaction 102 = .ok (.ireturn, 1) := by decide +kernel
theorem dX6_countUses_0 : decode cX6_countUses 0 = .ok (.aload_n 0, 1) := by decide +kernel
theorem dX6_countUses_1 : decode cX6_countUses 1 = .ok (.getfield 23, 3) := by decide +kernel
theorem dX6_countUses_4 : decode cX6_countUses 4 = .ok (.iconst 0, 1) := by decide +kernel
theorem dX6_countUses_5 : decode cX6_countUses 5 = .ok (.invokestatic 294, 3) := by decide +kernel
theorem dX6_countUses_8 : decode cX6_countUses 8 = .ok (.iconst 0, 1) := by decide +kernel
theorem dX6_countUses_9 : decode cX6_countUses 9 = .ok (.istore_n 2, 1) := by decide +kernel
theorem dX6_countUses_10 : decode cX6_countUses 10 = .ok (.iload_n 2, 1) := by decide +kernel
theorem dX6_countUses_11 : decode cX6_countUses 11 = .ok (.sipush 128, 3) := by decide +kernel
theorem dX6_countUses_14 : decode cX6_countUses 14 = .ok (.if_icmp .ge 38, 3) := by decide +kernel
theorem dX6_countUses_17 : decode cX6_countUses 17 = .ok (.aload_n 1, 1) := by decide +kernel
theorem dX6_countUses_18 : decode cX6_countUses 18 = .ok (.iload_n 2, 1) := by decide +kernel
theorem dX6_countUses_19 : decode cX6_countUses 19 = .ok (.invokevirtual 40, 3) := by decide +kernel
theorem dX6_countUses_22 : decode cX6_countUses 22 = .ok (.istore_n 3, 1) := by decide +kernel
theorem dX6_countUses_23 : decode cX6_countUses 23 = .ok (.iload_n 3, 1) := by decide +kernel
theorem dX6_countUses_24 : decode cX6_countUses 24 = .ok (.ifCond .lt 22, 3) := by decide +kernel
theorem dX6_countUses_27 : decode cX6_countUses 27 = .ok (.iload_n 3, 1) := by decide +kernel
theorem dX6_countUses_28 : decode cX6_countUses 28 = .ok (.aload_n 0, 1) := by decide +kernel
theorem dX6_countUses_29 : decode cX6_countUses 29 = .ok (.getfield 23, 3) := by decide +kernel
theorem dX6_countUses_32 : decode cX6_countUses 32 = .ok (.arraylength, 1) := by decide +kernel
theorem dX6_countUses_33 : decode cX6_countUses 33 = .ok (.if_icmp .ge 13, 3) := by decide +kernel
theorem dX6_countUses_36 : decode cX6_countUses 36 = .ok (.aload_n 0, 1) := by decide +kernel
theorem dX6_countUses_37 : decode cX6_countUses 37 = .ok (.getfield 23, 3) := by decide +kernel
theorem dX6_countUses_40 : decode cX6_countUses 40 = .ok (.iload_n 3, 1) := by decide +kernel
theorem dX6_countUses_41 : decode cX6_countUses 41 = .ok (.dup2, 1) := by decide +kernel
theorem dX6_countUses_42 : decode cX6_countUses 42 = .ok (.iaload, 1) := by decide +kernel
theorem dX6_countUses_43 : decode cX6_countUses 43 = .ok (.iconst 1, 1) := by decide +kernel
theorem dX6_countUses_44 : decode cX6_countUses 44 = .ok (.iadd, 1) := by decide +kernel
theorem dX6_countUses_45 : decode cX6_countUses 45 = .ok (.iastore, 1) := by decide +kernel
theorem dX6_countUses_46 : decode cX6_countUses 46 = .ok (.iinc 2 1, 3) := by decide +kernel
theorem dX6_countUses_49 : decode cX6_countUses 49 = .ok (.goto (-39), 3) := by decide +kernel
theorem dX6_countUses_52 : decode cX6_countUses 52 = .ok (.return_, 1) := by decide +kernel
theorem dX6_countOwn_0 : decode cX6_countOwn 0 = .ok (.aload_n 0, 1) := by decide +kernel
theorem dX6_countOwn_1 : decode cX6_countOwn 1 = .ok (.aload_n 1, 1) := by decide +kernel
theorem dX6_countOwn_2 : decode cX6_countOwn 2 = .ok (.invokevirtual 212, 3) := by decide +kernel
theorem dX6_countOwn_5 : decode cX6_countOwn 5 = .ok (.iconst 0, 1) := by decide +kernel
theorem dX6_countOwn_6 : decode cX6_countOwn 6 = .ok (.istore_n 2, 1) := by decide +kernel
theorem dX6_countOwn_7 : decode cX6_countOwn 7 = .ok (.iconst 0, 1) := by decide +kernel
theorem dX6_countOwn_8 : decode cX6_countOwn 8 = .ok (.istore_n 3, 1) := by decide +kernel
theorem dX6_countOwn_9 : decode cX6_countOwn 9 = .ok (.iload_n 3, 1) := by decide +kernel
theorem dX6_countOwn_10 : decode cX6_countOwn 10 = .ok (.aload_n 0, 1) := by decide +kernel
theorem dX6_countOwn_11 : decode cX6_countOwn 11 = .ok (.getfield 23, 3) := by decide +kernel
theorem dX6_countOwn_14 : decode cX6_countOwn 14 = .ok (.arraylength, 1) := by decide +kernel
theorem dX6_countOwn_15 : decode cX6_countOwn 15 = .ok (.if_icmp .ge 41, 3) := by decide +kernel
theorem dX6_countOwn_18 : decode cX6_countOwn 18 = .ok (.aload_n 0, 1) := by decide +kernel
theorem dX6_countOwn_19 : decode cX6_countOwn 19 = .ok (.getfield 23, 3) := by decide +kernel
theorem dX6_countOwn_22 : decode cX6_countOwn 22 = .ok (.iload_n 3, 1) := by decide +kernel
theorem dX6_countOwn_23 : decode cX6_countOwn 23 = .ok (.iaload, 1) := by decide +kernel
theorem dX6_countOwn_24 : decode cX6_countOwn 24 = .ok (.ifCond .le 26, 3) := by decide +kernel
theorem dX6_countOwn_27 : decode cX6_countOwn 27 = .ok (.aload_n 0, 1) := by decide +kernel
theorem dX6_countOwn_28 : decode cX6_countOwn 28 = .ok (.getfield 23, 3) := by decide +kernel
theorem dX6_countOwn_31 : decode cX6_countOwn 31 = .ok (.iload_n 3, 1) := by decide +kernel
theorem dX6_countOwn_32 : decode cX6_countOwn 32 = .ok (.iaload, 1) := by decide +kernel
theorem dX6_countOwn_33 : decode cX6_countOwn 33 = .ok (.aload_n 0, 1) := by decide +kernel
theorem dX6_countOwn_34 : decode cX6_countOwn 34 = .ok (.getfield 12, 3) := by decide +kernel
theorem dX6_countOwn_37 : decode cX6_countOwn 37 = .ok (.getfield 46, 3) := by decide +kernel
theorem dX6_countOwn_40 : decode cX6_countOwn 40 = .ok (.iload_n 3, 1) := by decide +kernel
theorem dX6_countOwn_41 : decode cX6_countOwn 41 = .ok (.invokevirtual 60, 3) := by decide +kernel
theorem dX6_countOwn_44 : decode cX6_countOwn 44 = .ok (.if_icmp .ne 6, 3) := by decide +kernel
theorem dX6_countOwn_47 : decode cX6_countOwn 47 = .ok (.iinc 2 1, 3) := by decide +kernel
theorem dX6_countOwn_50 : decode cX6_countOwn 50 = .ok (.iinc 3 1, 3) := by decide +kernel
theorem dX6_countOwn_53 : decode cX6_countOwn 53 = .ok (.goto (-44), 3) := by decide +kernel
theorem dX6_countOwn_56 : decode cX6_countOwn 56 = .ok (.iload_n 2, 1) := by decide +kernel
theorem dX6_countOwn_57 : decode cX6_countOwn 57 = .ok (.ireturn, 1) := by decide +kernel
theorem dJ7_fill_53178_0 : decode cJ7_fill_53178 0 = .ok (.iconst 0, 1) := by decide +kernel
theorem dJ7_fill_53178_1 : decode cJ7_fill_53178 1 = .ok (.istore_n 2, 1) := by decide +kernel
theorem dJ7_fill_53178_2 : decode cJ7_fill_53178 2 = .ok (.aload_n 0, 1) := by decide +kernel
theorem dJ7_fill_53178_3 : decode cJ7_fill_53178 3 = .ok (.arraylength, 1) := by decide +kernel
theorem dJ7_fill_53178_4 : decode cJ7_fill_53178 4 = .ok (.istore_n 3, 1) := by decide +kernel
theorem dJ7_fill_53178_5 : decode cJ7_fill_53178 5 = .ok (.iload_n 2, 1) := by decide +kernel
theorem dJ7_fill_53178_6 : decode cJ7_fill_53178 6 = .ok (.iload_n 3, 1) := by decide +kernel
theorem dJ7_fill_53178_7 : decode cJ7_fill_53178 7 = .ok (.if_icmp .ge 13, 3) := by decide +kernel
theorem dJ7_fill_53178_10 : decode cJ7_fill_53178 10 = .ok (.aload_n 0, 1) := by decide +kernel
theorem dJ7_fill_53178_11 : decode cJ7_fill_53178 11 = .ok (.iload_n 2, 1) := by decide +kernel
theorem dJ7_fill_53178_12 : decode cJ7_fill_53178 12 = .ok (.iload_n 1, 1) := by decide +kernel
theorem dJ7_fill_53178_13 : decode cJ7_fill_53178 13 = .ok (.iastore, 1) := by decide +kernel
theorem dJ7_fill_53178_14 : decode cJ7_fill_53178 14 = .ok (.iinc 2 1, 3) := by decide +kernel
theorem dJ7_fill_53178_17 : decode cJ7_fill_53178 17 = .ok (.goto (-12), 3) := by decide +kernel
theorem dJ7_fill_53178_20 : decode cJ7_fill_53178 20 = .ok (.return_, 1) := by decide +kernel
theorem dL_from_0 : decode cL_from 0 = .ok (.aload_n 0, 1) := by decide +kernel
theorem dL_from_1 : decode cL_from 1 = .ok (.arraylength, 1) := by decide +kernel
theorem dL_from_2 : decode cL_from 2 = .ok (.ifCond .ne 13, 3) := by decide +kernel
theorem dL_from_5 : decode cL_from 5 = .ok (.bipush 53, 2) := by decide +kernel
theorem dL_from_7 : decode cL_from 7 = .ok (.iload_n 1, 1) := by decide +kernel
theorem dL_from_8 : decode cL_from 8 = .ok (.imul, 1) := by decide +kernel
theorem dL_from_9 : decode cL_from 9 = .ok (.bipush 7, 2) := by decide +kernel
theorem dL_from_11 : decode cL_from 11 = .ok (.iadd, 1) := by decide +kernel
theorem dL_from_12 : decode cL_from 12 = .ok (.goto 14, 3) := by decide +kernel
theorem dL_from_15 : decode cL_from 15 = .ok (.aload_n 0, 1) := by decide +kernel
theorem dL_from_16 : decode cL_from 16 = .ok (.iload_n 1, 1) := by decide +kernel
theorem dL_from_17 : decode cL_from 17 = .ok (.aload_n 0, 1) := by decide +kernel
theorem dL_from_18 : decode cL_from 18 = .ok (.arraylength, 1) := by decide +kernel
theorem dL_from_19 : decode cL_from 19 = .ok (.irem, 1) := by decide +kernel
theorem dL_from_20 : decode cL_from 20 = .ok (.iaload, 1) := by decide +kernel
theorem dL_from_21 : decode cL_from 21 = .ok (.ldc 7, 2) := by decide +kernel
theorem dL_from_23 : decode cL_from 23 = .ok (.iload_n 1, 1) := by decide +kernel
theorem dL_from_24 : decode cL_from 24 = .ok (.imul, 1) := by decide +kernel
theorem dL_from_25 : decode cL_from 25 = .ok (.ixor, 1) := by decide +kernel
theorem dL_from_26 : decode cL_from 26 = .ok (.istore_n 3, 1) := by decide +kernel
theorem dL_from_27 : decode cL_from 27 = .ok (.iload_n 3, 1) := by decide +kernel
theorem dL_from_28 : decode cL_from 28 = .ok (.ldc 8, 2) := by decide +kernel
theorem dL_from_30 : decode cL_from 30 = .ok (.iand, 1) := by decide +kernel
theorem dL_from_31 : decode cL_from 31 = .ok (.iload_n 2, 1) := by decide +kernel
theorem dL_from_32 : decode cL_from 32 = .ok (.irem, 1) := by decide +kernel
theorem dL_from_33 : decode cL_from 33 = .ok (.ireturn, 1) := by decide +kernel
