theorem dL_block_0 : decode cL_block 0 = .ok (.iload_n 0, 1) := by decide +kernel
theorem dL_block_1 : decode cL_block 1 = .ok (.bipush 16, 2) := by decide +kernel
theorem dL_block_3 : decode cL_block 3 = .ok (.idiv, 1) := by decide +kernel
theorem dL_block_4 : decode cL_block 4 = .ok (.bipush 32, 2) := by decide +kernel
theorem dL_block_6 : decode cL_block 6 = .ok (.imul, 1) := by decide +kernel
theorem dL_block_7 : decode cL_block 7 = .ok (.iload_n 0, 1) := by decide +kernel
theorem dL_block_8 : decode cL_block 8 = .ok (.bipush 16, 2) := by decide +kernel
theorem dL_block_10 : decode cL_block 10 = .ok (.irem, 1) := by decide +kernel
theorem dL_block_11 : decode cL_block 11 = .ok (.iadd, 1) := by decide +kernel
theorem dL_block_12 : decode cL_block 12 = .ok (.ireturn, 1) := by decide +kernel
theorem dL_place_0 : decode cL_place 0 = .ok (.iload_n 0, 1) := by decide +kernel
theorem dL_place_1 : decode cL_place 1 = .ok (.bipush 32, 2) := by decide +kernel
theorem dL_place_3 : decode cL_place 3 = .ok (.idiv, 1) := by decide +kernel
theorem dL_place_4 : decode cL_place 4 = .ok (.bipush 16, 2) := by decide +kernel
theorem dL_place_6 : decode cL_place 6 = .ok (.imul, 1) := by decide +kernel
theorem dL_place_7 : decode cL_place 7 = .ok (.iload_n 0, 1) := by decide +kernel
theorem dL_place_8 : decode cL_place 8 = .ok (.bipush 32, 2) := by decide +kernel
theorem dL_place_10 : decode cL_place 10 = .ok (.irem, 1) := by decide +kernel
theorem dL_place_11 : decode cL_place 11 = .ok (.iadd, 1) := by decide +kernel
theorem dL_place_12 : decode cL_place 12 = .ok (.ireturn, 1) := by decide +kernel
theorem dL_has_0 : decode cL_has 0 = .ok (.aload_n 0, 1) := by decide +kernel
theorem dL_has_1 : decode cL_has 1 = .ok (.iload_n 1, 1) := by decide +kernel
theorem dL_has_2 : decode cL_has 2 = .ok (.laload, 1) := by decide +kernel
theorem dL_has_3 : decode cL_has 3 = .ok (.iload_n 2, 1) := by decide +kernel
theorem dL_has_4 : decode cL_has 4 = .ok (.lshr, 1) := by decide +kernel
theorem dL_has_5 : decode cL_has 5 = .ok (.lconst 1, 1) := by decide +kernel
theorem dL_has_6 : decode cL_has 6 = .ok (.land, 1) := by decide +kernel
theorem dL_has_7 : decode cL_has 7 = .ok (.lconst 1, 1) := by decide +kernel
theorem dL_has_8 : decode cL_has 8 = .ok (.lcmp, 1) := by decide +kernel
theorem dL_has_9 : decode cL_has 9 = .ok (.ifCond .ne 7, 3) := by decide +kernel
theorem dL_has_12 : decode cL_has 12 = .ok (.iconst 1, 1) := by decide +kernel
theorem dL_has_13 : decode cL_has 13 = .ok (.goto 4, 3) := by decide +kernel
theorem dL_has_16 : decode cL_has 16 = .ok (.iconst 0, 1) := by decide +kernel
theorem dL_has_17 : decode cL_has 17 = .ok (.ireturn, 1) := by decide +kernel
theorem dL_with_0 : decode cL_with 0 = .ok (.iload_n 3, 1) := by decide +kernel
theorem dL_with_1 : decode cL_with 1 = .ok (.ifCond .eq 11, 3) := by decide +kernel
theorem dL_with_4 : decode cL_with 4 = .ok (.lload_n 0, 1) := by decide +kernel
theorem dL_with_5 : decode cL_with 5 = .ok (.lconst 1, 1) := by decide +kernel
theorem dL_with_6 : decode cL_with 6 = .ok (.iload_n 2, 1) := by decide +kernel
theorem dL_with_7 : decode cL_with 7 = .ok (.lshl, 1) := by decide +kernel
theorem dL_with_8 : decode cL_with 8 = .ok (.lor, 1) := by decide +kernel
theorem dL_with_9 : decode cL_with 9 = .ok (.goto 12, 3) := by decide +kernel
theorem dL_with_12 : decode cL_with 12 = .ok (.lload_n 0, 1) := by decide +kernel
theorem dL_with_13 : decode cL_with 13 = .ok (.lconst 1, 1) := by decide +kernel
theorem dL_with_14 : decode cL_with 14 = .ok (.iload_n 2, 1) := by decide +kernel
theorem dL_with_15 : decode cL_with 15 = .ok (.lshl, 1) := by decide +kernel
theorem dL_with_16 : decode cL_with 16 = .ok (.ldc2_w 9, 3) := by decide +kernel
theorem dL_with_19 : decode cL_with 19 = .ok (.lxor, 1) := by decide +kernel
theorem dL_with_20 : decode cL_with 20 = .ok (.land, 1) := by decide +kernel
theorem dL_with_21 : decode cL_with 21 = .ok (.lreturn, 1) := by decide +kernel
theorem dL_birth_0 : decode cL_birth 0 = .ok (.aload_n 0, 1) := by decide +kernel
theorem dL_birth_1 : decode cL_birth 1 = .ok (.iload_n 1, 1) := by decide +kernel
theorem dL_birth_2 : decode cL_birth 2 = .ok (.laload, 1) := by decide +kernel
theorem dL_birth_3 : decode cL_birth 3 = .ok (.bipush 32, 2) := by decide +kernel
theorem dL_birth_5 : decode cL_birth 5 = .ok (.lshr, 1) := by decide +kernel
theorem dL_birth_6 : decode cL_birth 6 = .ok (.ldc2_w 11, 3) := by decide +kernel
theorem dL_birth_9 : decode cL_birth 9 = .ok (.land, 1) := by decide +kernel
theorem dL_birth_10 : decode cL_birth 10 = .ok (.l2i, 1) := by decide +kernel
theorem dL_birth_11 : decode cL_birth 11 = .ok (.ireturn, 1) := by decide +kernel
theorem dL_count_0 : decode cL_count 0 = .ok (.iconst 0, 1) := by decide +kernel
theorem dL_count_1 : decode cL_count 1 = .ok (.istore 4, 2) := by decide +kernel
theorem dL_count_3 : decode cL_count 3 = .ok (.iload_n 2, 1) := by decide +kernel
theorem dL_count_4 : decode cL_count 4 = .ok (.istore 5, 2) := by decide +kernel
theorem dL_count_6 : decode cL_count 6 = .ok (.iload 5, 2) := by decide +kernel
theorem dL_count_8 : decode cL_count 8 = .ok (.iload_n 3, 1) := by decide +kernel
theorem dL_count_9 : decode cL_count 9 = .ok (.if_icmp .ge 29, 3) := by decide +kernel
theorem dL_count_12 : decode cL_count 12 = .ok (.iload 4, 2) := by decide +kernel
theorem dL_count_14 : decode cL_count 14 = .ok (.aload_n 0, 1) := by decide +kernel
theorem dL_count_15 : decode cL_count 15 = .ok (.iload 5, 2) := by decide +kernel
theorem dL_count_17 : decode cL_count 17 = .ok (.iaload, 1) := by decide +kernel
theorem dL_count_18 : decode cL_count 18 = .ok (.iload_n 1, 1) := by decide +kernel
theorem dL_count_19 : decode cL_count 19 = .ok (.iconst 1, 1) := by decide +kernel
theorem dL_count_20 : decode cL_count 20 = .ok (.iadd, 1) := by decide +kernel
theorem dL_count_21 : decode cL_count 21 = .ok (.if_icmp .ne 7, 3) := by decide +kernel
theorem dL_count_24 : decode cL_count 24 = .ok (.iconst 1, 1) := by decide +kernel
theorem dL_count_25 : decode cL_count 25 = .ok (.goto 4, 3) := by decide +kernel
theorem dL_count_28 : decode cL_count 28 = .ok (.iconst 0, 1) := by decide +kernel
theorem dL_count_29 : decode cL_count 29 = .ok (.iadd, 1) := by decide +kernel
theorem dL_count_30 : decode cL_count 30 = .ok (.istore 4, 2) := by decide +kernel
theorem dL_count_32 : decode cL_count 32 = .ok (.iinc 5 1, 3) := by decide +kernel
theorem dL_count_35 : decode cL_count 35 = .ok (.goto (-29), 3) := by decide +kernel
theorem dL_count_38 : decode cL_count 38 = .ok (.iload 4, 2) := by decide +kernel
theorem dL_count_40 : decode cL_count 40 = .ok (.ireturn, 1) := by decide +kernel
theorem dL_settle_0 : decode cL_settle 0 = .ok (.iconst 0, 1) := by decide +kernel
theorem dL_settle_1 : decode cL_settle 1 = .ok (.istore_n 3, 1) := by decide +kernel
theorem dL_settle_2 : decode cL_settle 2 = .ok (.iconst 0, 1) := by decide +kernel
theorem dL_settle_3 : decode cL_settle 3 = .ok (.istore 4, 2) := by decide +kernel
theorem dL_settle_5 : decode cL_settle 5 = .ok (.iload 4, 2) := by decide +kernel
theorem dL_settle_7 : decode cL_settle 7 = .ok (.bipush 64, 2) := by decide +kernel
theorem dL_settle_9 : decode cL_settle 9 = .ok (.if_icmp .ge 128, 3) := by decide +kernel
theorem dL_settle_12 : decode cL_settle 12 = .ok (.aload_n 0, 1) := by decide +kernel
theorem dL_settle_13 : decode cL_settle 13 = .ok (.iload 4, 2) := by decide +kernel
theorem dL_settle_15 : decode cL_settle 15 = .ok (.invokestatic 13, 3) := by decide +kernel
theorem dL_settle_18 : decode cL_settle 18 = .ok (.iconst 0, 1) := by decide +kernel
theorem dL_settle_19 : decode cL_settle 19 = .ok (.bipush 28, 2) := by decide +kernel
theorem dL_settle_21 : decode cL_settle 21 = .ok (.invokestatic 19, 3) := by decide +kernel
theorem dL_settle_24 : decode cL_settle 24 = .ok (.ifCond .le 7, 3) := by decide +kernel
theorem dL_settle_27 : decode cL_settle 27 = .ok (.iconst 1, 1) := by decide +kernel
theorem dL_settle_28 : decode cL_settle 28 = .ok (.goto 4, 3) := by decide +kernel
theorem dL_settle_31 : decode cL_settle 31 = .ok (.iconst 0, 1) := by decide +kernel
theorem dL_settle_32 : decode cL_settle 32 = .ok (.istore 5, 2) := by decide +kernel
theorem dL_settle_34 : decode cL_settle 34 = .ok (.iload 5, 2) := by decide +kernel
theorem dL_settle_36 : decode cL_settle 36 = .ok (.ifCond .ne 18, 3) := by decide +kernel
theorem dL_settle_39 : decode cL_settle 39 = .ok (.aload_n 1, 1) := by decide +kernel
theorem dL_settle_40 : decode cL_settle 40 = .ok (.iload 4, 2) := by decide +kernel
theorem dL_settle_42 : decode cL_settle 42 = .ok (.bipush 62, 2) := by decide +kernel
theorem dL_settle_44 : decode cL_settle 44 = .ok (.invokestatic 23, 3) := by decide +kernel
theorem dL_settle_47 : decode cL_settle 47 = .ok (.ifCond .eq 7, 3) := by decide +kernel
theorem dL_settle_50 : decode cL_settle 50 = .ok (.iconst 1, 1) := by decide +kernel
theorem dL_settle_51 : decode cL_settle 51 = .ok (.goto 4, 3) := by decide +kernel
theorem dL_settle_54 : decode cL_settle 54 = .ok (.iconst 0, 1) := by decide +kernel
theorem dL_settle_55 : decode cL_settle 55 = .ok (.istore 6, 2) := by decide +kernel
theorem dL_settle_57 : decode cL_settle 57 = .ok (.iload_n 3, 1) := by decide +kernel
theorem dL_settle_58 : decode cL_settle 58 = .ok (.iload 6, 2) := by decide +kernel
theorem dL_settle_60 : decode cL_settle 60 = .ok (.ifCond .eq 7, 3) := by decide +kernel
theorem dL_settle_63 : decode cL_settle 63 = .ok (.iconst 1, 1) := by decide +kernel
theorem dL_settle_64 : decode cL_settle 64 = .ok (.goto 4, 3) := by decide +kernel
theorem dL_settle_67 : decode cL_settle 67 = .ok (.iconst 0, 1) := by decide +kernel
theorem dL_settle_68 : decode cL_settle 68 = .ok (.iadd, 1) := by decide +kernel
theorem dL_settle_69 : decode cL_settle 69 = .ok (.istore_n 3, 1) := by decide +kernel
theorem dL_settle_70 : decode cL_settle 70 = .ok (.aload_n 1, 1) := by decide +kernel
theorem dL_settle_71 : decode cL_settle 71 = .ok (.iload 4, 2) := by decide +kernel
theorem dL_settle_73 : decode cL_settle 73 = .ok (.aload_n 1, 1) := by decide +kernel
theorem dL_settle_74 : decode cL_settle 74 = .ok (.iload 4, 2) := by decide +kernel
theorem dL_settle_76 : decode cL_settle 76 = .ok (.laload, 1) := by decide +kernel
theorem dL_settle_77 : decode cL_settle 77 = .ok (.bipush 60, 2) := by decide +kernel
theorem dL_settle_79 : decode cL_settle 79 = .ok (.iload 6, 2) := by decide +kernel
theorem dL_settle_81 : decode cL_settle 81 = .ok (.ifCond .eq 23, 3) := by decide +kernel
theorem dL_settle_84 : decode cL_settle 84 = .ok (.aload_n 1, 1) := by decide +kernel
theorem dL_settle_85 : decode cL_settle 85 = .ok (.iload 4, 2) := by decide +kernel
theorem dL_settle_87 : decode cL_settle 87 = .ok (.invokestatic 27, 3) := by decide +kernel
theorem dL_settle_90 : decode cL_settle 90 = .ok (.aload_n 2, 1) := by decide +kernel
theorem dL_settle_91 : decode cL_settle 91 = .ok (.iconst 0, 1) := by decide +kernel
theorem dL_settle_92 : decode cL_settle 92 = .ok (.iaload, 1) := by decide +kernel
theorem dL_settle_93 : decode cL_settle 93 = .ok (.if_icmp .eq 7, 3) := by decide +kernel
theorem dL_settle_96 : decode cL_settle 96 = .ok (.iconst 1, 1) := by decide +kernel
theorem dL_settle_97 : decode cL_settle 97 = .ok (.goto 15, 3) := by decide +kernel
theorem dL_settle_100 : decode cL_settle 100 = .ok (.iconst 0, 1) := by decide +kernel
theorem dL_settle_101 : decode cL_settle 101 = .ok (.goto 11, 3) := by decide +kernel
theorem dL_settle_104 : decode cL_settle 104 = .ok (.aload_n 1, 1) := by decide +kernel
theorem dL_settle_105 : decode cL_settle 105 = .ok (.iload 4, 2) := by decide +kernel
theorem dL_settle_107 : decode cL_settle 107 = .ok (.bipush 60, 2) := by decide +kernel
theorem dL_settle_109 : decode cL_settle 109 = .ok (.invokestatic 23, 3) := by decide +kernel
theorem dL_settle_112 : decode cL_settle 112 = .ok (.invokestatic 31, 3) := by decide +kernel
theorem dL_settle_115 : decode cL_settle 115 = .ok (.lastore, 1) := by decide +kernel
theorem dL_settle_116 : decode cL_settle 116 = .ok (.aload_n 1, 1) := by decide +kernel
theorem dL_settle_117 : decode cL_settle 117 = .ok (.iload 4, 2) := by decide +kernel
theorem dL_settle_119 : decode cL_settle 119 = .ok (.aload_n 1, 1) := by decide +kernel
theorem dL_settle_120 : decode cL_settle 120 = .ok (.iload 4, 2) := by decide +kernel
theorem dL_settle_122 : decode cL_settle 122 = .ok (.laload, 1) := by decide +kernel
theorem dL_settle_123 : decode cL_settle 123 = .ok (.bipush 62, 2) := by decide +kernel
theorem dL_settle_125 : decode cL_settle 125 = .ok (.iload 5, 2) := by decide +kernel
theorem dL_settle_127 : decode cL_settle 127 = .ok (.invokestatic 31, 3) := by decide +kernel
theorem dL_settle_130 : decode cL_settle 130 = .ok (.lastore, 1) := by decide +kernel
theorem dL_settle_131 : decode cL_settle 131 = .ok (.iinc 4 1, 3) := by decide +kernel
theorem dL_settle_134 : decode cL_settle 134 = .ok (.goto (-129), 3) := by decide +kernel
theorem dL_settle_137 : decode cL_settle 137 = .ok (.iload_n 3, 1) := by decide +kernel
theorem dL_settle_138 : decode cL_settle 138 = .ok (.ireturn, 1) := by decide +kernel
theorem dL_next_0 : decode cL_next 0 = .ok (.iconst (-1), 1) := by decide +kernel
theorem dL_next_1 : decode cL_next 1 = .ok (.istore_n 1, 1) := by decide +kernel
theorem dL_next_2 : decode cL_next 2 = .ok (.bipush 99, 2) := by decide +kernel
theorem dL_next_4 : decode cL_next 4 = .ok (.istore_n 2, 1) := by decide +kernel
theorem dL_next_5 : decode cL_next 5 = .ok (.iconst 0, 1) := by decide +kernel
theorem dL_next_6 : decode cL_next 6 = .ok (.istore_n 3, 1) := by decide +kernel
theorem dL_next_7 : decode cL_next 7 = .ok (.iload_n 3, 1) := by decide +kernel
theorem dL_next_8 : decode cL_next 8 = .ok (.iconst 4, 1) := by decide +kernel
theorem dL_next_9 : decode cL_next 9 = .ok (.if_icmp .ge 123, 3) := by decide +kernel
theorem dL_next_12 : decode cL_next 12 = .ok (.iconst 0, 1) := by decide +kernel
theorem dL_next_13 : decode cL_next 13 = .ok (.istore 4, 2) := by decide +kernel
theorem dL_next_15 : decode cL_next 15 = .ok (.iconst (-1), 1) := by decide +kernel
theorem dL_next_16 : decode cL_next 16 = .ok (.istore 5, 2) := by decide +kernel
theorem dL_next_18 : decode cL_next 18 = .ok (.bipush 16, 2) := by decide +kernel
theorem dL_next_20 : decode cL_next 20 = .ok (.iload_n 3, 1) := by decide +kernel
theorem dL_next_21 : decode cL_next 21 = .ok (.imul, 1) := by decide +kernel
theorem dL_next_22 : decode cL_next 22 = .ok (.bipush 15, 2) := by decide +kernel
theorem dL_next_24 : decode cL_next 24 = .ok (.iadd, 1) := by decide +kernel
theorem dL_next_25 : decode cL_next 25 = .ok (.istore 6, 2) := by decide +kernel
theorem dL_next_27 : decode cL_next 27 = .ok (.iload 6, 2) := by decide +kernel
theorem dL_next_29 : decode cL_next 29 = .ok (.bipush 16, 2) := by decide +kernel
theorem dL_next_31 : decode cL_next 31 = .ok (.iload_n 3, 1) := by decide +kernel
theorem dL_next_32 : decode cL_next 32 = .ok (.imul, 1) := by decide +kernel
theorem dL_next_33 : decode cL_next 33 = .ok (.if_icmp .lt 67, 3) := by decide +kernel
theorem dL_next_36 : decode cL_next 36 = .ok (.aload_n 0, 1) := by decide +kernel
theorem dL_next_37 : decode cL_next 37 = .ok (.iload 6, 2) := by decide +kernel
theorem dL_next_39 : decode cL_next 39 = .ok (.bipush 60, 2) := by decide +kernel
theorem dL_next_41 : decode cL_next 41 = .ok (.invokestatic 23, 3) := by decide +kernel
theorem dL_next_44 : decode cL_next 44 = .ok (.ifCond .ne 14, 3) := by decide +kernel
theorem dL_next_47 : decode cL_next 47 = .ok (.aload_n 0, 1) := by decide +kernel
theorem dL_next_48 : decode cL_next 48 = .ok (.iload 6, 2) := by decide +kernel
theorem dL_next_50 : decode cL_next 50 = .ok (.bipush 62, 2) := by decide +kernel
theorem dL_next_52 : decode cL_next 52 = .ok (.invokestatic 23, 3) := by decide +kernel
theorem dL_next_55 : decode cL_next 55 = .ok (.ifCond .eq 7, 3) := by decide +kernel
theorem dL_next_58 : decode cL_next 58 = .ok (.iconst 1, 1) := by decide +kernel
theorem dL_next_59 : decode cL_next 59 = .ok (.goto 4, 3) := by decide +kernel
theorem dL_next_62 : decode cL_next 62 = .ok (.iconst 0, 1) := by decide +kernel
theorem dL_next_63 : decode cL_next 63 = .ok (.istore 7, 2) := by decide +kernel
theorem dL_next_65 : decode cL_next 65 = .ok (.iload 4, 2) := by decide +kernel
theorem dL_next_67 : decode cL_next 67 = .ok (.iload 7, 2) := by decide +kernel
theorem dL_next_69 : decode cL_next 69 = .ok (.ifCond .eq 7, 3) := by decide +kernel
theorem dL_next_72 : decode cL_next 72 = .ok (.iconst 1, 1) := by decide +kernel
theorem dL_next_73 : decode cL_next 73 = .ok (.goto 4, 3) := by decide +kernel
theorem dL_next_76 : decode cL_next 76 = .ok (.iconst 0, 1) := by decide +kernel
theorem dL_next_77 : decode cL_next 77 = .ok (.iadd, 1) := by decide +kernel
theorem dL_next_78 : decode cL_next 78 = .ok (.istore 4, 2) := by decide +kernel
theorem dL_next_80 : decode cL_next 80 = .ok (.iload 7, 2) := by decide +kernel
theorem dL_next_82 : decode cL_next 82 = .ok (.ifCond .eq 8, 3) := by decide +kernel
theorem dL_next_85 : decode cL_next 85 = .ok (.iload 5, 2) := by decide +kernel
theorem dL_next_87 : decode cL_next 87 = .ok (.goto 5, 3) := by decide +kernel
theorem dL_next_90 : decode cL_next 90 = .ok (.iload 6, 2) := by decide +kernel
theorem dL_next_92 : decode cL_next 92 = .ok (.istore 5, 2) := by decide +kernel
theorem dL_next_94 : decode cL_next 94 = .ok (.iinc 6 (-1), 3) := by decide +kernel
theorem dL_next_97 : decode cL_next 97 = .ok (.goto (-70), 3) := by decide +kernel
theorem dL_next_100 : decode cL_next 100 = .ok (.iload 4, 2) := by decide +kernel
theorem dL_next_102 : decode cL_next 102 = .ok (.iload_n 2, 1) := by decide +kernel
theorem dL_next_103 : decode cL_next 103 = .ok (.if_icmp .ge 8, 3) := by decide +kernel
theorem dL_next_106 : decode cL_next 106 = .ok (.iload 5, 2) := by decide +kernel
theorem dL_next_108 : decode cL_next 108 = .ok (.goto 4, 3) := by decide +kernel
theorem dL_next_111 : decode cL_next 111 = .ok (.iload_n 1, 1) := by decide +kernel
theorem dL_next_112 : decode cL_next 112 = .ok (.istore_n 1, 1) := by decide +kernel
theorem dL_next_113 : decode cL_next 113 = .ok (.iload 4, 2) := by decide +kernel
theorem dL_next_115 : decode cL_next 115 = .ok (.iload_n 2, 1) := by decide +kernel
theorem dL_next_116 : decode cL_next 116 = .ok (.if_icmp .ge 8, 3) := by decide +kernel
theorem dL_next_119 : decode cL_next 119 = .ok (.iload 4, 2) := by decide +kernel
theorem dL_next_121 : decode cL_next 121 = .ok (.goto 4, 3) := by decide +kernel
theorem dL_next_124 : decode cL_next 124 = .ok (.iload_n 2, 1) := by decide +kernel
theorem dL_next_125 : decode cL_next 125 = .ok (.istore_n 2, 1) := by decide +kernel
theorem dL_next_126 : decode cL_next 126 = .ok (.iinc 3 1, 3) := by decide +kernel
theorem dL_next_129 : decode cL_next 129 = .ok (.goto (-122), 3) := by decide +kernel
theorem dL_next_132 : decode cL_next 132 = .ok (.iload_n 1, 1) := by decide +kernel
theorem dL_next_133 : decode cL_next 133 = .ok (.ireturn, 1) := by decide +kernel
theorem dL_slot_0 : decode cL_slot 0 = .ok (.iconst 0, 1) := by decide +kernel
theorem dL_slot_1 : decode cL_slot 1 = .ok (.istore_n 2, 1) := by decide +kernel
theorem dL_slot_2 : decode cL_slot 2 = .ok (.iload_n 2, 1) := by decide +kernel
theorem dL_slot_3 : decode cL_slot 3 = .ok (.iconst 4, 1) := by decide +kernel
theorem dL_slot_4 : decode cL_slot 4 = .ok (.if_icmp .ge 23, 3) := by decide +kernel
theorem dL_slot_7 : decode cL_slot 7 = .ok (.aload_n 0, 1) := by decide +kernel
theorem dL_slot_8 : decode cL_slot 8 = .ok (.bipush 12, 2) := by decide +kernel
theorem dL_slot_10 : decode cL_slot 10 = .ok (.iload_n 2, 1) := by decide +kernel
theorem dL_slot_11 : decode cL_slot 11 = .ok (.iadd, 1) := by decide +kernel
theorem dL_slot_12 : decode cL_slot 12 = .ok (.iaload, 1) := by decide +kernel
theorem dL_slot_13 : decode cL_slot 13 = .ok (.iload_n 1, 1) := by decide +kernel
theorem dL_slot_14 : decode cL_slot 14 = .ok (.iconst 1, 1) := by decide +kernel
theorem dL_slot_15 : decode cL_slot 15 = .ok (.iadd, 1) := by decide +kernel
theorem dL_slot_16 : decode cL_slot 16 = .ok (.if_icmp .ne 5, 3) := by decide +kernel
theorem dL_slot_19 : decode cL_slot 19 = .ok (.iload_n 2, 1) := by decide +kernel
theorem dL_slot_20 : decode cL_slot 20 = .ok (.ireturn, 1) := by decide +kernel
theorem dL_slot_21 : decode cL_slot 21 = .ok (.iinc 2 1, 3) := by decide +kernel
theorem dL_slot_24 : decode cL_slot 24 = .ok (.goto (-22), 3) := by decide +kernel
theorem dL_slot_27 : decode cL_slot 27 = .ok (.iconst (-1), 1) := by decide +kernel
theorem dL_slot_28 : decode cL_slot 28 = .ok (.ireturn, 1) := by decide +kernel
theorem dL_isOrigin_0 : decode cL_isOrigin 0 = .ok (.iconst 0, 1) := by decide +kernel
theorem dL_isOrigin_1 : decode cL_isOrigin 1 = .ok (.istore_n 2, 1) := by decide +kernel
theorem dL_isOrigin_2 : decode cL_isOrigin 2 = .ok (.iconst 0, 1) := by decide +kernel
theorem dL_isOrigin_3 : decode cL_isOrigin 3 = .ok (.istore_n 3, 1) := by decide +kernel
theorem dL_isOrigin_4 : decode cL_isOrigin 4 = .ok (.iload_n 3, 1) := by decide +kernel
theorem dL_isOrigin_5 : decode cL_isOrigin 5 = .ok (.iconst 3, 1) := by decide +kernel
theorem dL_isOrigin_6 : decode cL_isOrigin 6 = .ok (.if_icmp .ge 43, 3) := by decide +kernel
theorem dL_isOrigin_9 : decode cL_isOrigin 9 = .ok (.iload_n 2, 1) := by decide +kernel
theorem dL_isOrigin_10 : decode cL_isOrigin 10 = .ok (.ifCond .ne 27, 3) := by decide +kernel
theorem dL_isOrigin_13 : decode cL_isOrigin 13 = .ok (.aload_n 0, 1) := by decide +kernel
theorem dL_isOrigin_14 : decode cL_isOrigin 14 = .ok (.iconst 4, 1) := by decide +kernel
theorem dL_isOrigin_15 : decode cL_isOrigin 15 = .ok (.iload_n 3, 1) := by decide +kernel
theorem dL_isOrigin_16 : decode cL_isOrigin 16 = .ok (.iadd, 1) := by decide +kernel
theorem dL_isOrigin_17 : decode cL_isOrigin 17 = .ok (.iaload, 1) := by decide +kernel
theorem dL_isOrigin_18 : decode cL_isOrigin 18 = .ok (.iconst 1, 1) := by decide +kernel
theorem dL_isOrigin_19 : decode cL_isOrigin 19 = .ok (.if_icmp .ne 22, 3) := by decide +kernel
theorem dL_isOrigin_22 : decode cL_isOrigin 22 = .ok (.aload_n 0, 1) := by decide +kernel
theorem dL_isOrigin_23 : decode cL_isOrigin 23 = .ok (.bipush 8, 2) := by decide +kernel
theorem dL_isOrigin_25 : decode cL_isOrigin 25 = .ok (.iload_n 3, 1) := by decide +kernel
theorem dL_isOrigin_26 : decode cL_isOrigin 26 = .ok (.iadd, 1) := by decide +kernel
theorem dL_isOrigin_27 : decode cL_isOrigin 27 = .ok (.iaload, 1) := by decide +kernel
theorem dL_isOrigin_28 : decode cL_isOrigin 28 = .ok (.aload_n 0, 1) := by decide +kernel
theorem dL_isOrigin_29 : decode cL_isOrigin 29 = .ok (.bipush 12, 2) := by decide +kernel
theorem dL_isOrigin_31 : decode cL_isOrigin 31 = .ok (.iload_n 1, 1) := by decide +kernel
theorem dL_isOrigin_32 : decode cL_isOrigin 32 = .ok (.iadd, 1) := by decide +kernel
theorem dL_isOrigin_33 : decode cL_isOrigin 33 = .ok (.iaload, 1) := by decide +kernel
theorem dL_isOrigin_34 : decode cL_isOrigin 34 = .ok (.if_icmp .ne 7, 3) := by decide +kernel
theorem dL_isOrigin_37 : decode cL_isOrigin 37 = .ok (.iconst 1, 1) := by decide +kernel
theorem dL_isOrigin_38 : decode cL_isOrigin 38 = .ok (.goto 4, 3) := by decide +kernel
theorem dL_isOrigin_41 : decode cL_isOrigin 41 = .ok (.iconst 0, 1) := by decide +kernel
theorem dL_isOrigin_42 : decode cL_isOrigin 42 = .ok (.istore_n 2, 1) := by decide +kernel
theorem dL_isOrigin_43 : decode cL_isOrigin 43 = .ok (.iinc 3 1, 3) := by decide +kernel
theorem dL_isOrigin_46 : decode cL_isOrigin 46 = .ok (.goto (-42), 3) := by decide +kernel
theorem dL_isOrigin_49 : decode cL_isOrigin 49 = .ok (.iload_n 2, 1) := by decide +kernel
theorem dL_isOrigin_50 : decode cL_isOrigin 50 = .ok (.ireturn, 1) := by decide +kernel
theorem dL_drop_0 : decode cL_drop 0 = .ok (.aload_n 1, 1) := by decide +kernel
theorem dL_drop_1 : decode cL_drop 1 = .ok (.bipush 12, 2) := by decide +kernel
theorem dL_drop_3 : decode cL_drop 3 = .ok (.iload_n 2, 1) := by decide +kernel
theorem dL_drop_4 : decode cL_drop 4 = .ok (.iadd, 1) := by decide +kernel
theorem dL_drop_5 : decode cL_drop 5 = .ok (.iconst 0, 1) := by decide +kernel
theorem dL_drop_6 : decode cL_drop 6 = .ok (.iastore, 1) := by decide +kernel
theorem dL_drop_7 : decode cL_drop 7 = .ok (.iconst 0, 1) := by decide +kernel
theorem dL_drop_8 : decode cL_drop 8 = .ok (.istore_n 3, 1) := by decide +kernel
theorem dL_drop_9 : decode cL_drop 9 = .ok (.iload_n 3, 1) := by decide +kernel
theorem dL_drop_10 : decode cL_drop 10 = .ok (.iconst 4, 1) := by decide +kernel
theorem dL_drop_11 : decode cL_drop 11 = .ok (.if_icmp .ge 20, 3) := by decide +kernel
theorem dL_drop_14 : decode cL_drop 14 = .ok (.aload_n 0, 1) := by decide +kernel
theorem dL_drop_15 : decode cL_drop 15 = .ok (.bipush 12, 2) := by decide +kernel
theorem dL_drop_17 : decode cL_drop 17 = .ok (.iconst 4, 1) := by decide +kernel
theorem dL_drop_18 : decode cL_drop 18 = .ok (.iload_n 2, 1) := by decide +kernel
theorem dL_drop_19 : decode cL_drop 19 = .ok (.imul, 1) := by decide +kernel
theorem dL_drop_20 : decode cL_drop 20 = .ok (.iadd, 1) := by decide +kernel
theorem dL_drop_21 : decode cL_drop 21 = .ok (.iload_n 3, 1) := by decide +kernel
theorem dL_drop_22 : decode cL_drop 22 = .ok (.iadd, 1) := by decide +kernel
theorem dL_drop_23 : decode cL_drop 23 = .ok (.iconst 0, 1) := by decide +kernel
theorem dL_drop_24 : decode cL_drop 24 = .ok (.iastore, 1) := by decide +kernel
theorem dL_drop_25 : decode cL_drop 25 = .ok (.iinc 3 1, 3) := by decide +kernel
theorem dL_drop_28 : decode cL_drop 28 = .ok (.goto (-19), 3) := by decide +kernel
theorem dL_drop_31 : decode cL_drop 31 = .ok (.return_, 1) := by decide +kernel
theorem dL_numberAt_0 : decode cL_numberAt 0 = .ok (.iload_n 2, 1) := by decide +kernel
theorem dL_numberAt_1 : decode cL_numberAt 1 = .ok (.istore_n 3, 1) := by decide +kernel
theorem dL_numberAt_2 : decode cL_numberAt 2 = .ok (.iconst 0, 1) := by decide +kernel
theorem dL_numberAt_3 : decode cL_numberAt 3 = .ok (.istore 4, 2) := by decide +kernel
theorem dL_numberAt_5 : decode cL_numberAt 5 = .ok (.iload 4, 2) := by decide +kernel
theorem dL_numberAt_7 : decode cL_numberAt 7 = .ok (.aload_n 0, 1) := by decide +kernel
theorem dL_numberAt_8 : decode cL_numberAt 8 = .ok (.iconst 1, 1) := by decide +kernel
theorem dL_numberAt_9 : decode cL_numberAt 9 = .ok (.iaload, 1) := by decide +kernel
theorem dL_numberAt_10 : decode cL_numberAt 10 = .ok (.if_icmp .ge 65, 3) := by decide +kernel
theorem dL_numberAt_13 : decode cL_numberAt 13 = .ok (.aload_n 0, 1) := by decide +kernel
theorem dL_numberAt_14 : decode cL_numberAt 14 = .ok (.iload 4, 2) := by decide +kernel
theorem dL_numberAt_16 : decode cL_numberAt 16 = .ok (.invokestatic 35, 3) := by decide +kernel
theorem dL_numberAt_19 : decode cL_numberAt 19 = .ok (.istore 5, 2) := by decide +kernel
theorem dL_numberAt_21 : decode cL_numberAt 21 = .ok (.iload 5, 2) := by decide +kernel
theorem dL_numberAt_23 : decode cL_numberAt 23 = .ok (.ifCond .lt 18, 3) := by decide +kernel
theorem dL_numberAt_26 : decode cL_numberAt 26 = .ok (.aload_n 0, 1) := by decide +kernel
theorem dL_numberAt_27 : decode cL_numberAt 27 = .ok (.bipush 16, 2) := by decide +kernel
theorem dL_numberAt_29 : decode cL_numberAt 29 = .ok (.iload 5, 2) := by decide +kernel
theorem dL_numberAt_31 : decode cL_numberAt 31 = .ok (.iadd, 1) := by decide +kernel
theorem dL_numberAt_32 : decode cL_numberAt 32 = .ok (.iaload, 1) := by decide +kernel
theorem dL_numberAt_33 : decode cL_numberAt 33 = .ok (.iload_n 1, 1) := by decide +kernel
theorem dL_numberAt_34 : decode cL_numberAt 34 = .ok (.if_icmp .ne 7, 3) := by decide +kernel
theorem dL_numberAt_37 : decode cL_numberAt 37 = .ok (.iconst 1, 1) := by decide +kernel
theorem dL_numberAt_38 : decode cL_numberAt 38 = .ok (.goto 4, 3) := by decide +kernel
theorem dL_numberAt_41 : decode cL_numberAt 41 = .ok (.iconst 0, 1) := by decide +kernel
theorem dL_numberAt_42 : decode cL_numberAt 42 = .ok (.istore 6, 2) := by decide +kernel
theorem dL_numberAt_44 : decode cL_numberAt 44 = .ok (.iload 6, 2) := by decide +kernel
theorem dL_numberAt_46 : decode cL_numberAt 46 = .ok (.ifCond .eq 10, 3) := by decide +kernel
theorem dL_numberAt_49 : decode cL_numberAt 49 = .ok (.iload_n 3, 1) := by decide +kernel
theorem dL_numberAt_50 : decode cL_numberAt 50 = .ok (.ifCond .ne 6, 3) := by decide +kernel
theorem dL_numberAt_53 : decode cL_numberAt 53 = .ok (.iload 4, 2) := by decide +kernel
theorem dL_numberAt_55 : decode cL_numberAt 55 = .ok (.ireturn, 1) := by decide +kernel
theorem dL_numberAt_56 : decode cL_numberAt 56 = .ok (.iload_n 3, 1) := by decide +kernel
theorem dL_numberAt_57 : decode cL_numberAt 57 = .ok (.iload 6, 2) := by decide +kernel
theorem dL_numberAt_59 : decode cL_numberAt 59 = .ok (.ifCond .eq 7, 3) := by decide +kernel
theorem dL_numberAt_62 : decode cL_numberAt 62 = .ok (.iconst 1, 1) := by decide +kernel
theorem dL_numberAt_63 : decode cL_numberAt 63 = .ok (.goto 4, 3) := by decide +kernel
theorem dL_numberAt_66 : decode cL_numberAt 66 = .ok (.iconst 0, 1) := by decide +kernel
theorem dL_numberAt_67 : decode cL_numberAt 67 = .ok (.isub, 1) := by decide +kernel
theorem dL_numberAt_68 : decode cL_numberAt 68 = .ok (.istore_n 3, 1) := by decide +kernel
theorem dL_numberAt_69 : decode cL_numberAt 69 = .ok (.iinc 4 1, 3) := by decide +kernel
theorem dL_numberAt_72 : decode cL_numberAt 72 = .ok (.goto (-67), 3) := by decide +kernel
theorem dL_numberAt_75 : decode cL_numberAt 75 = .ok (.iconst (-1), 1) := by decide +kernel
theorem dL_numberAt_76 : decode cL_numberAt 76 = .ok (.ireturn, 1) := by decide +kernel
theorem dL_isKind_0 : decode cL_isKind 0 = .ok (.iload_n 2, 1) := by decide +kernel
theorem dL_isKind_1 : decode cL_isKind 1 = .ok (.iconst 2, 1) := by decide +kernel
theorem dL_isKind_2 : decode cL_isKind 2 = .ok (.if_icmp .ne 13, 3) := by decide +kernel
theorem dL_isKind_5 : decode cL_isKind 5 = .ok (.aload_n 0, 1) := by decide +kernel
theorem dL_isKind_6 : decode cL_isKind 6 = .ok (.iload_n 1, 1) := by decide +kernel
theorem dL_isKind_7 : decode cL_isKind 7 = .ok (.bipush 62, 2) := by decide +kernel
theorem dL_isKind_9 : decode cL_isKind 9 = .ok (.invokestatic 23, 3) := by decide +kernel
theorem dL_isKind_12 : decode cL_isKind 12 = .ok (.goto 61, 3) := by decide +kernel
theorem dL_isKind_15 : decode cL_isKind 15 = .ok (.iload_n 2, 1) := by decide +kernel
theorem dL_isKind_16 : decode cL_isKind 16 = .ok (.iconst 1, 1) := by decide +kernel
theorem dL_isKind_17 : decode cL_isKind 17 = .ok (.if_icmp .ne 31, 3) := by decide +kernel
theorem dL_isKind_20 : decode cL_isKind 20 = .ok (.aload_n 0, 1) := by decide +kernel
theorem dL_isKind_21 : decode cL_isKind 21 = .ok (.iload_n 1, 1) := by decide +kernel
theorem dL_isKind_22 : decode cL_isKind 22 = .ok (.bipush 62, 2) := by decide +kernel
theorem dL_isKind_24 : decode cL_isKind 24 = .ok (.invokestatic 23, 3) := by decide +kernel
theorem dL_isKind_27 : decode cL_isKind 27 = .ok (.ifCond .eq 17, 3) := by decide +kernel
theorem dL_isKind_30 : decode cL_isKind 30 = .ok (.aload_n 0, 1) := by decide +kernel
theorem dL_isKind_31 : decode cL_isKind 31 = .ok (.iload_n 1, 1) := by decide +kernel
theorem dL_isKind_32 : decode cL_isKind 32 = .ok (.bipush 61, 2) := by decide +kernel
theorem dL_isKind_34 : decode cL_isKind 34 = .ok (.invokestatic 23, 3) := by decide +kernel
theorem dL_isKind_37 : decode cL_isKind 37 = .ok (.ifCond .ne 7, 3) := by decide +kernel
theorem dL_isKind_40 : decode cL_isKind 40 = .ok (.iconst 1, 1) := by decide +kernel
theorem dL_isKind_41 : decode cL_isKind 41 = .ok (.goto 32, 3) := by decide +kernel
theorem dL_isKind_44 : decode cL_isKind 44 = .ok (.iconst 0, 1) := by decide +kernel
theorem dL_isKind_45 : decode cL_isKind 45 = .ok (.goto 28, 3) := by decide +kernel
theorem dL_isKind_48 : decode cL_isKind 48 = .ok (.aload_n 0, 1) := by decide +kernel
theorem dL_isKind_49 : decode cL_isKind 49 = .ok (.iload_n 1, 1) := by decide +kernel
theorem dL_isKind_50 : decode cL_isKind 50 = .ok (.bipush 62, 2) := by decide +kernel
theorem dL_isKind_52 : decode cL_isKind 52 = .ok (.invokestatic 23, 3) := by decide +kernel
theorem dL_isKind_55 : decode cL_isKind 55 = .ok (.ifCond .ne 17, 3) := by decide +kernel
theorem dL_isKind_58 : decode cL_isKind 58 = .ok (.aload_n 0, 1) := by decide +kernel
theorem dL_isKind_59 : decode cL_isKind 59 = .ok (.iload_n 1, 1) := by decide +kernel
theorem dL_isKind_60 : decode cL_isKind 60 = .ok (.bipush 61, 2) := by decide +kernel
theorem dL_isKind_62 : decode cL_isKind 62 = .ok (.invokestatic 23, 3) := by decide +kernel
theorem dL_isKind_65 : decode cL_isKind 65 = .ok (.ifCond .eq 7, 3) := by decide +kernel
theorem dL_isKind_68 : decode cL_isKind 68 = .ok (.iconst 1, 1) := by decide +kernel
theorem dL_isKind_69 : decode cL_isKind 69 = .ok (.goto 4, 3) := by decide +kernel
theorem dL_isKind_72 : decode cL_isKind 72 = .ok (.iconst 0, 1) := by decide +kernel
theorem dL_isKind_73 : decode cL_isKind 73 = .ok (.ireturn, 1) := by decide +kernel
theorem dL_runs_0 : decode cL_runs 0 = .ok (.iconst 0, 1) := by decide +kernel
theorem dL_runs_1 : decode cL_runs 1 = .ok (.istore 5, 2) := by decide +kernel
theorem dL_runs_3 : decode cL_runs 3 = .ok (.bipush 16, 2) := by decide +kernel
theorem dL_runs_5 : decode cL_runs 5 = .ok (.iload_n 2, 1) := by decide +kernel
theorem dL_runs_6 : decode cL_runs 6 = .ok (.imul, 1) := by decide +kernel
theorem dL_runs_7 : decode cL_runs 7 = .ok (.istore 6, 2) := by decide +kernel
theorem dL_runs_9 : decode cL_runs 9 = .ok (.iload 6, 2) := by decide +kernel
theorem dL_runs_11 : decode cL_runs 11 = .ok (.bipush 16, 2) := by decide +kernel
theorem dL_runs_13 : decode cL_runs 13 = .ok (.iload_n 2, 1) := by decide +kernel
theorem dL_runs_14 : decode cL_runs 14 = .ok (.imul, 1) := by decide +kernel
theorem dL_runs_15 : decode cL_runs 15 = .ok (.bipush 16, 2) := by decide +kernel
theorem dL_runs_17 : decode cL_runs 17 = .ok (.iadd, 1) := by decide +kernel
theorem dL_runs_18 : decode cL_runs 18 = .ok (.if_icmp .ge 162, 3) := by decide +kernel
theorem dL_runs_21 : decode cL_runs 21 = .ok (.aload_n 1, 1) := by decide +kernel
theorem dL_runs_22 : decode cL_runs 22 = .ok (.iload 6, 2) := by decide +kernel
theorem dL_runs_24 : decode cL_runs 24 = .ok (.iload_n 3, 1) := by decide +kernel
theorem dL_runs_25 : decode cL_runs 25 = .ok (.invokestatic 39, 3) := by decide +kernel
theorem dL_runs_28 : decode cL_runs 28 = .ok (.ifCond .eq 27, 3) := by decide +kernel
theorem dL_runs_31 : decode cL_runs 31 = .ok (.iload 6, 2) := by decide +kernel
theorem dL_runs_33 : decode cL_runs 33 = .ok (.bipush 16, 2) := by decide +kernel
theorem dL_runs_35 : decode cL_runs 35 = .ok (.irem, 1) := by decide +kernel
theorem dL_runs_36 : decode cL_runs 36 = .ok (.ifCond .eq 15, 3) := by decide +kernel
theorem dL_runs_39 : decode cL_runs 39 = .ok (.aload_n 1, 1) := by decide +kernel
theorem dL_runs_40 : decode cL_runs 40 = .ok (.iload 6, 2) := by decide +kernel
theorem dL_runs_42 : decode cL_runs 42 = .ok (.iconst 1, 1) := by decide +kernel
theorem dL_runs_43 : decode cL_runs 43 = .ok (.isub, 1) := by decide +kernel
theorem dL_runs_44 : decode cL_runs 44 = .ok (.iload_n 3, 1) := by decide +kernel
theorem dL_runs_45 : decode cL_runs 45 = .ok (.invokestatic 39, 3) := by decide +kernel
theorem dL_runs_48 : decode cL_runs 48 = .ok (.ifCond .ne 7, 3) := by decide +kernel
theorem dL_runs_51 : decode cL_runs 51 = .ok (.iconst 1, 1) := by decide +kernel
theorem dL_runs_52 : decode cL_runs 52 = .ok (.goto 4, 3) := by decide +kernel
theorem dL_runs_55 : decode cL_runs 55 = .ok (.iconst 0, 1) := by decide +kernel
theorem dL_runs_56 : decode cL_runs 56 = .ok (.istore 7, 2) := by decide +kernel
theorem dL_runs_58 : decode cL_runs 58 = .ok (.iconst 0, 1) := by decide +kernel
theorem dL_runs_59 : decode cL_runs 59 = .ok (.istore 8, 2) := by decide +kernel
theorem dL_runs_61 : decode cL_runs 61 = .ok (.iload 7, 2) := by decide +kernel
theorem dL_runs_63 : decode cL_runs 63 = .ok (.ifCond .eq 37, 3) := by decide +kernel
theorem dL_runs_66 : decode cL_runs 66 = .ok (.iload 6, 2) := by decide +kernel
theorem dL_runs_68 : decode cL_runs 68 = .ok (.iload 8, 2) := by decide +kernel
theorem dL_runs_70 : decode cL_runs 70 = .ok (.iadd, 1) := by decide +kernel
theorem dL_runs_71 : decode cL_runs 71 = .ok (.bipush 16, 2) := by decide +kernel
theorem dL_runs_73 : decode cL_runs 73 = .ok (.iload_n 2, 1) := by decide +kernel
theorem dL_runs_74 : decode cL_runs 74 = .ok (.imul, 1) := by decide +kernel
theorem dL_runs_75 : decode cL_runs 75 = .ok (.bipush 16, 2) := by decide +kernel
theorem dL_runs_77 : decode cL_runs 77 = .ok (.iadd, 1) := by decide +kernel
theorem dL_runs_78 : decode cL_runs 78 = .ok (.if_icmp .ge 22, 3) := by decide +kernel
theorem dL_runs_81 : decode cL_runs 81 = .ok (.aload_n 1, 1) := by decide +kernel
theorem dL_runs_82 : decode cL_runs 82 = .ok (.iload 6, 2) := by decide +kernel
theorem dL_runs_84 : decode cL_runs 84 = .ok (.iload 8, 2) := by decide +kernel
theorem dL_runs_86 : decode cL_runs 86 = .ok (.iadd, 1) := by decide +kernel
theorem dL_runs_87 : decode cL_runs 87 = .ok (.iload_n 3, 1) := by decide +kernel
theorem dL_runs_88 : decode cL_runs 88 = .ok (.invokestatic 39, 3) := by decide +kernel
theorem dL_runs_91 : decode cL_runs 91 = .ok (.ifCond .eq 9, 3) := by decide +kernel
theorem dL_runs_94 : decode cL_runs 94 = .ok (.iinc 8 1, 3) := by decide +kernel
theorem dL_runs_97 : decode cL_runs 97 = .ok (.goto (-36), 3) := by decide +kernel
theorem dL_runs_100 : decode cL_runs 100 = .ok (.iload 7, 2) := by decide +kernel
theorem dL_runs_102 : decode cL_runs 102 = .ok (.ifCond .eq 57, 3) := by decide +kernel
theorem dL_runs_105 : decode cL_runs 105 = .ok (.iload 4, 2) := by decide +kernel
theorem dL_runs_107 : decode cL_runs 107 = .ok (.ifCond .lt 52, 3) := by decide +kernel
theorem dL_runs_110 : decode cL_runs 110 = .ok (.aload_n 0, 1) := by decide +kernel
theorem dL_runs_111 : decode cL_runs 111 = .ok (.iload_n 2, 1) := by decide +kernel
theorem dL_runs_112 : decode cL_runs 112 = .ok (.iload 4, 2) := by decide +kernel
theorem dL_runs_114 : decode cL_runs 114 = .ok (.iload 5, 2) := by decide +kernel
theorem dL_runs_116 : decode cL_runs 116 = .ok (.iadd, 1) := by decide +kernel
theorem dL_runs_117 : decode cL_runs 117 = .ok (.invokevirtual 42, 3) := by decide +kernel
theorem dL_runs_120 : decode cL_runs 120 = .ok (.bipush 100, 2) := by decide +kernel
theorem dL_runs_122 : decode cL_runs 122 = .ok (.iload 6, 2) := by decide +kernel
theorem dL_runs_124 : decode cL_runs 124 = .ok (.invokestatic 13, 3) := by decide +kernel
theorem dL_runs_127 : decode cL_runs 127 = .ok (.imul, 1) := by decide +kernel
theorem dL_runs_128 : decode cL_runs 128 = .ok (.iload 8, 2) := by decide +kernel
theorem dL_runs_130 : decode cL_runs 130 = .ok (.iadd, 1) := by decide +kernel
theorem dL_runs_131 : decode cL_runs 131 = .ok (.if_icmp .ne 25, 3) := by decide +kernel
theorem dL_runs_134 : decode cL_runs 134 = .ok (.aload_n 0, 1) := by decide +kernel
theorem dL_runs_135 : decode cL_runs 135 = .ok (.iload_n 2, 1) := by decide +kernel
theorem dL_runs_136 : decode cL_runs 136 = .ok (.iload 4, 2) := by decide +kernel
theorem dL_runs_138 : decode cL_runs 138 = .ok (.iload 5, 2) := by decide +kernel
theorem dL_runs_140 : decode cL_runs 140 = .ok (.iadd, 1) := by decide +kernel
theorem dL_runs_141 : decode cL_runs 141 = .ok (.invokevirtual 48, 3) := by decide +kernel
theorem dL_runs_144 : decode cL_runs 144 = .ok (.iload_n 3, 1) := by decide +kernel
theorem dL_runs_145 : decode cL_runs 145 = .ok (.ifCond .le 7, 3) := by decide +kernel
theorem dL_runs_148 : decode cL_runs 148 = .ok (.iconst 1, 1) := by decide +kernel
theorem dL_runs_149 : decode cL_runs 149 = .ok (.goto 4, 3) := by decide +kernel
theorem dL_runs_152 : decode cL_runs 152 = .ok (.iconst 0, 1) := by decide +kernel
theorem dL_runs_153 : decode cL_runs 153 = .ok (.if_icmp .eq 6, 3) := by decide +kernel
theorem dL_runs_156 : decode cL_runs 156 = .ok (.bipush (-99), 2) := by decide +kernel
theorem dL_runs_158 : decode cL_runs 158 = .ok (.ireturn, 1) := by decide +kernel
theorem dL_runs_159 : decode cL_runs 159 = .ok (.iload 5, 2) := by decide +kernel
theorem dL_runs_161 : decode cL_runs 161 = .ok (.iload 7, 2) := by decide +kernel
theorem dL_runs_163 : decode cL_runs 163 = .ok (.ifCond .eq 7, 3) := by decide +kernel
theorem dL_runs_166 : decode cL_runs 166 = .ok (.iconst 1, 1) := by decide +kernel
theorem dL_runs_167 : decode cL_runs 167 = .ok (.goto 4, 3) := by decide +kernel
theorem dL_runs_170 : decode cL_runs 170 = .ok (.iconst 0, 1) := by decide +kernel
theorem dL_runs_171 : decode cL_runs 171 = .ok (.iadd, 1) := by decide +kernel
theorem dL_runs_172 : decode cL_runs 172 = .ok (.istore 5, 2) := by decide +kernel
theorem dL_runs_174 : decode cL_runs 174 = .ok (.iinc 6 1, 3) := by decide +kernel
theorem dL_runs_177 : decode cL_runs 177 = .ok (.goto (-168), 3) := by decide +kernel
theorem dL_runs_180 : decode cL_runs 180 = .ok (.iload 5, 2) := by decide +kernel
theorem dL_runs_182 : decode cL_runs 182 = .ok (.ireturn, 1) := by decide +kernel
theorem dL_isLogged_0 : decode cL_isLogged 0 = .ok (.iconst 1, 1) := by decide +kernel
theorem dL_isLogged_1 : decode cL_isLogged 1 = .ok (.istore 4, 2) := by decide +kernel
theorem dL_isLogged_3 : decode cL_isLogged 3 = .ok (.iconst 0, 1) := by decide +kernel
theorem dL_isLogged_4 : decode cL_isLogged 4 = .ok (.istore 5, 2) := by decide +kernel
theorem dL_isLogged_6 : decode cL_isLogged 6 = .ok (.iload 5, 2) := by decide +kernel
theorem dL_isLogged_8 : decode cL_isLogged 8 = .ok (.iconst 4, 1) := by decide +kernel
theorem dL_isLogged_9 : decode cL_isLogged 9 = .ok (.if_icmp .ge 240, 3) := by decide +kernel
theorem dL_isLogged_12 : decode cL_isLogged 12 = .ok (.iload 4, 2) := by decide +kernel
theorem dL_isLogged_14 : decode cL_isLogged 14 = .ok (.ifCond .eq 235, 3) := by decide +kernel
theorem dL_isLogged_17 : decode cL_isLogged 17 = .ok (.aload_n 0, 1) := by decide +kernel
theorem dL_isLogged_18 : decode cL_isLogged 18 = .ok (.aload_n 1, 1) := by decide +kernel
theorem dL_isLogged_19 : decode cL_isLogged 19 = .ok (.iload 5, 2) := by decide +kernel
theorem dL_isLogged_21 : decode cL_isLogged 21 = .ok (.iconst 1, 1) := by decide +kernel
theorem dL_isLogged_22 : decode cL_isLogged 22 = .ok (.iconst (-1), 1) := by decide +kernel
theorem dL_isLogged_23 : decode cL_isLogged 23 = .ok (.invokestatic 52, 3) := by decide +kernel
theorem dL_isLogged_26 : decode cL_isLogged 26 = .ok (.istore 6, 2) := by decide +kernel
theorem dL_isLogged_28 : decode cL_isLogged 28 = .ok (.aload_n 0, 1) := by decide +kernel
theorem dL_isLogged_29 : decode cL_isLogged 29 = .ok (.aload_n 1, 1) := by decide +kernel
theorem dL_isLogged_30 : decode cL_isLogged 30 = .ok (.iload 5, 2) := by decide +kernel
theorem dL_isLogged_32 : decode cL_isLogged 32 = .ok (.iconst 0, 1) := by decide +kernel
theorem dL_isLogged_33 : decode cL_isLogged 33 = .ok (.iconst (-1), 1) := by decide +kernel
theorem dL_isLogged_34 : decode cL_isLogged 34 = .ok (.invokestatic 52, 3) := by decide +kernel
theorem dL_isLogged_37 : decode cL_isLogged 37 = .ok (.istore 7, 2) := by decide +kernel
theorem dL_isLogged_39 : decode cL_isLogged 39 = .ok (.aload_n 0, 1) := by decide +kernel
theorem dL_isLogged_40 : decode cL_isLogged 40 = .ok (.aload_n 1, 1) := by decide +kernel
theorem dL_isLogged_41 : decode cL_isLogged 41 = .ok (.iload 5, 2) := by decide +kernel
theorem dL_isLogged_43 : decode cL_isLogged 43 = .ok (.iconst 2, 1) := by decide +kernel
theorem dL_isLogged_44 : decode cL_isLogged 44 = .ok (.iconst (-1), 1) := by decide +kernel
theorem dL_isLogged_45 : decode cL_isLogged 45 = .ok (.invokestatic 52, 3) := by decide +kernel
theorem dL_isLogged_48 : decode cL_isLogged 48 = .ok (.istore 8, 2) := by decide +kernel
theorem dL_isLogged_50 : decode cL_isLogged 50 = .ok (.aload_n 3, 1) := by decide +kernel
theorem dL_isLogged_51 : decode cL_isLogged 51 = .ok (.iload 5, 2) := by decide +kernel
theorem dL_isLogged_53 : decode cL_isLogged 53 = .ok (.iaload, 1) := by decide +kernel
theorem dL_isLogged_54 : decode cL_isLogged 54 = .ok (.iload 6, 2) := by decide +kernel
theorem dL_isLogged_56 : decode cL_isLogged 56 = .ok (.iadd, 1) := by decide +kernel
theorem dL_isLogged_57 : decode cL_isLogged 57 = .ok (.iload 7, 2) := by decide +kernel
theorem dL_isLogged_59 : decode cL_isLogged 59 = .ok (.iadd, 1) := by decide +kernel
theorem dL_isLogged_60 : decode cL_isLogged 60 = .ok (.istore 9, 2) := by decide +kernel
theorem dL_isLogged_62 : decode cL_isLogged 62 = .ok (.iload 9, 2) := by decide +kernel
theorem dL_isLogged_64 : decode cL_isLogged 64 = .ok (.iconst 2, 1) := by decide +kernel
theorem dL_isLogged_65 : decode cL_isLogged 65 = .ok (.iload 8, 2) := by decide +kernel
theorem dL_isLogged_67 : decode cL_isLogged 67 = .ok (.imul, 1) := by decide +kernel
theorem dL_isLogged_68 : decode cL_isLogged 68 = .ok (.iconst 2, 1) := by decide +kernel
theorem dL_isLogged_69 : decode cL_isLogged 69 = .ok (.iadd, 1) := by decide +kernel
theorem dL_isLogged_70 : decode cL_isLogged 70 = .ok (.if_icmp .le 45, 3) := by decide +kernel
theorem dL_isLogged_73 : decode cL_isLogged 73 = .ok (.aload_n 2, 1) := by decide +kernel
theorem dL_isLogged_74 : decode cL_isLogged 74 = .ok (.iconst 2, 1) := by decide +kernel
theorem dL_isLogged_75 : decode cL_isLogged 75 = .ok (.dup2, 1) := by decide +kernel
theorem dL_isLogged_76 : decode cL_isLogged 76 = .ok (.iaload, 1) := by decide +kernel
theorem dL_isLogged_77 : decode cL_isLogged 77 = .ok (.iconst 1, 1) := by decide +kernel
theorem dL_isLogged_78 : decode cL_isLogged 78 = .ok (.iadd, 1) := by decide +kernel
theorem dL_isLogged_79 : decode cL_isLogged 79 = .ok (.iastore, 1) := by decide +kernel
theorem dL_isLogged_80 : decode cL_isLogged 80 = .ok (.aload_n 0, 1) := by decide +kernel
theorem dL_isLogged_81 : decode cL_isLogged 81 = .ok (.iload 5, 2) := by decide +kernel
theorem dL_isLogged_83 : decode cL_isLogged 83 = .ok (.invokevirtual 56, 3) := by decide +kernel
theorem dL_isLogged_86 : decode cL_isLogged 86 = .ok (.iload 8, 2) := by decide +kernel
theorem dL_isLogged_88 : decode cL_isLogged 88 = .ok (.if_icmp .ne 21, 3) := by decide +kernel
theorem dL_isLogged_91 : decode cL_isLogged 91 = .ok (.aload_n 0, 1) := by decide +kernel
theorem dL_isLogged_92 : decode cL_isLogged 92 = .ok (.aload_n 1, 1) := by decide +kernel
theorem dL_isLogged_93 : decode cL_isLogged 93 = .ok (.iload 5, 2) := by decide +kernel
theorem dL_isLogged_95 : decode cL_isLogged 95 = .ok (.iconst 2, 1) := by decide +kernel
theorem dL_isLogged_96 : decode cL_isLogged 96 = .ok (.iconst 0, 1) := by decide +kernel
theorem dL_isLogged_97 : decode cL_isLogged 97 = .ok (.invokestatic 52, 3) := by decide +kernel
theorem dL_isLogged_100 : decode cL_isLogged 100 = .ok (.iload 8, 2) := by decide +kernel
theorem dL_isLogged_102 : decode cL_isLogged 102 = .ok (.if_icmp .ne 7, 3) := by decide +kernel
theorem dL_isLogged_105 : decode cL_isLogged 105 = .ok (.iconst 1, 1) := by decide +kernel
theorem dL_isLogged_106 : decode cL_isLogged 106 = .ok (.goto 4, 3) := by decide +kernel
theorem dL_isLogged_109 : decode cL_isLogged 109 = .ok (.iconst 0, 1) := by decide +kernel
theorem dL_isLogged_110 : decode cL_isLogged 110 = .ok (.istore 4, 2) := by decide +kernel
theorem dL_isLogged_112 : decode cL_isLogged 112 = .ok (.goto 58, 3) := by decide +kernel
theorem dL_isLogged_115 : decode cL_isLogged 115 = .ok (.aload_n 0, 1) := by decide +kernel
theorem dL_isLogged_116 : decode cL_isLogged 116 = .ok (.iload 5, 2) := by decide +kernel
theorem dL_isLogged_118 : decode cL_isLogged 118 = .ok (.invokevirtual 56, 3) := by decide +kernel
theorem dL_isLogged_121 : decode cL_isLogged 121 = .ok (.iload 9, 2) := by decide +kernel
theorem dL_isLogged_123 : decode cL_isLogged 123 = .ok (.if_icmp .ne 44, 3) := by decide +kernel
theorem dL_isLogged_126 : decode cL_isLogged 126 = .ok (.aload_n 0, 1) := by decide +kernel
theorem dL_isLogged_127 : decode cL_isLogged 127 = .ok (.aload_n 1, 1) := by decide +kernel
theorem dL_isLogged_128 : decode cL_isLogged 128 = .ok (.iload 5, 2) := by decide +kernel
theorem dL_isLogged_130 : decode cL_isLogged 130 = .ok (.iconst 1, 1) := by decide +kernel
theorem dL_isLogged_131 : decode cL_isLogged 131 = .ok (.aload_n 3, 1) := by decide +kernel
theorem dL_isLogged_132 : decode cL_isLogged 132 = .ok (.iload 5, 2) := by decide +kernel
theorem dL_isLogged_134 : decode cL_isLogged 134 = .ok (.iaload, 1) := by decide +kernel
theorem dL_isLogged_135 : decode cL_isLogged 135 = .ok (.invokestatic 52, 3) := by decide +kernel
theorem dL_isLogged_138 : decode cL_isLogged 138 = .ok (.iload 6, 2) := by decide +kernel
theorem dL_isLogged_140 : decode cL_isLogged 140 = .ok (.if_icmp .ne 27, 3) := by decide +kernel
theorem dL_isLogged_143 : decode cL_isLogged 143 = .ok (.aload_n 0, 1) := by decide +kernel
theorem dL_isLogged_144 : decode cL_isLogged 144 = .ok (.aload_n 1, 1) := by decide +kernel
theorem dL_isLogged_145 : decode cL_isLogged 145 = .ok (.iload 5, 2) := by decide +kernel
theorem dL_isLogged_147 : decode cL_isLogged 147 = .ok (.iconst 0, 1) := by decide +kernel
theorem dL_isLogged_148 : decode cL_isLogged 148 = .ok (.aload_n 3, 1) := by decide +kernel
theorem dL_isLogged_149 : decode cL_isLogged 149 = .ok (.iload 5, 2) := by decide +kernel
theorem dL_isLogged_151 : decode cL_isLogged 151 = .ok (.iaload, 1) := by decide +kernel
theorem dL_isLogged_152 : decode cL_isLogged 152 = .ok (.iload 6, 2) := by decide +kernel
theorem dL_isLogged_154 : decode cL_isLogged 154 = .ok (.iadd, 1) := by decide +kernel
theorem dL_isLogged_155 : decode cL_isLogged 155 = .ok (.invokestatic 52, 3) := by decide +kernel
theorem dL_isLogged_158 : decode cL_isLogged 158 = .ok (.iload 7, 2) := by decide +kernel
theorem dL_isLogged_160 : decode cL_isLogged 160 = .ok (.if_icmp .ne 7, 3) := by decide +kernel
theorem dL_isLogged_163 : decode cL_isLogged 163 = .ok (.iconst 1, 1) := by decide +kernel
theorem dL_isLogged_164 : decode cL_isLogged 164 = .ok (.goto 4, 3) := by decide +kernel
theorem dL_isLogged_167 : decode cL_isLogged 167 = .ok (.iconst 0, 1) := by decide +kernel
theorem dL_isLogged_168 : decode cL_isLogged 168 = .ok (.istore 4, 2) := by decide +kernel
theorem dL_isLogged_170 : decode cL_isLogged 170 = .ok (.iconst 0, 1) := by decide +kernel
theorem dL_isLogged_171 : decode cL_isLogged 171 = .ok (.istore 10, 2) := by decide +kernel
theorem dL_isLogged_173 : decode cL_isLogged 173 = .ok (.bipush 16, 2) := by decide +kernel
theorem dL_isLogged_175 : decode cL_isLogged 175 = .ok (.iload 5, 2) := by decide +kernel
theorem dL_isLogged_177 : decode cL_isLogged 177 = .ok (.imul, 1) := by decide +kernel
theorem dL_isLogged_178 : decode cL_isLogged 178 = .ok (.istore 11, 2) := by decide +kernel
theorem dL_isLogged_180 : decode cL_isLogged 180 = .ok (.iload 11, 2) := by decide +kernel
theorem dL_isLogged_182 : decode cL_isLogged 182 = .ok (.bipush 16, 2) := by decide +kernel
theorem dL_isLogged_184 : decode cL_isLogged 184 = .ok (.iload 5, 2) := by decide +kernel
theorem dL_isLogged_186 : decode cL_isLogged 186 = .ok (.imul, 1) := by decide +kernel
theorem dL_isLogged_187 : decode cL_isLogged 187 = .ok (.bipush 16, 2) := by decide +kernel
theorem dL_isLogged_189 : decode cL_isLogged 189 = .ok (.iadd, 1) := by decide +kernel
theorem dL_isLogged_190 : decode cL_isLogged 190 = .ok (.if_icmp .ge 30, 3) := by decide +kernel
theorem dL_isLogged_193 : decode cL_isLogged 193 = .ok (.iload 10, 2) := by decide +kernel
theorem dL_isLogged_195 : decode cL_isLogged 195 = .ok (.aload_n 1, 1) := by decide +kernel
theorem dL_isLogged_196 : decode cL_isLogged 196 = .ok (.iload 11, 2) := by decide +kernel
theorem dL_isLogged_198 : decode cL_isLogged 198 = .ok (.bipush 62, 2) := by decide +kernel
theorem dL_isLogged_200 : decode cL_isLogged 200 = .ok (.invokestatic 23, 3) := by decide +kernel
theorem dL_isLogged_203 : decode cL_isLogged 203 = .ok (.ifCond .eq 7, 3) := by decide +kernel
theorem dL_isLogged_206 : decode cL_isLogged 206 = .ok (.iconst 1, 1) := by decide +kernel
theorem dL_isLogged_207 : decode cL_isLogged 207 = .ok (.goto 4, 3) := by decide +kernel
theorem dL_isLogged_210 : decode cL_isLogged 210 = .ok (.iconst 0, 1) := by decide +kernel
theorem dL_isLogged_211 : decode cL_isLogged 211 = .ok (.iadd, 1) := by decide +kernel
theorem dL_isLogged_212 : decode cL_isLogged 212 = .ok (.istore 10, 2) := by decide +kernel
theorem dL_isLogged_214 : decode cL_isLogged 214 = .ok (.iinc 11 1, 3) := by decide +kernel
theorem dL_isLogged_217 : decode cL_isLogged 217 = .ok (.goto (-37), 3) := by decide +kernel
theorem dL_isLogged_220 : decode cL_isLogged 220 = .ok (.iload 4, 2) := by decide +kernel
theorem dL_isLogged_222 : decode cL_isLogged 222 = .ok (.ifCond .eq 18, 3) := by decide +kernel
theorem dL_isLogged_225 : decode cL_isLogged 225 = .ok (.aload_n 0, 1) := by decide +kernel
theorem dL_isLogged_226 : decode cL_isLogged 226 = .ok (.iload 5, 2) := by decide +kernel
theorem dL_isLogged_228 : decode cL_isLogged 228 = .ok (.invokevirtual 59, 3) := by decide +kernel
theorem dL_isLogged_231 : decode cL_isLogged 231 = .ok (.iload 10, 2) := by decide +kernel
theorem dL_isLogged_233 : decode cL_isLogged 233 = .ok (.if_icmp .ne 7, 3) := by decide +kernel
theorem dL_isLogged_236 : decode cL_isLogged 236 = .ok (.iconst 1, 1) := by decide +kernel
theorem dL_isLogged_237 : decode cL_isLogged 237 = .ok (.goto 4, 3) := by decide +kernel
theorem dL_isLogged_240 : decode cL_isLogged 240 = .ok (.iconst 0, 1) := by decide +kernel
theorem dL_isLogged_241 : decode cL_isLogged 241 = .ok (.istore 4, 2) := by decide +kernel
theorem dL_isLogged_243 : decode cL_isLogged 243 = .ok (.iinc 5 1, 3) := by decide +kernel
theorem dL_isLogged_246 : decode cL_isLogged 246 = .ok (.goto (-240), 3) := by decide +kernel
theorem dL_isLogged_249 : decode cL_isLogged 249 = .ok (.iconst 0, 1) := by decide +kernel
theorem dL_isLogged_250 : decode cL_isLogged 250 = .ok (.istore 5, 2) := by decide +kernel
theorem dL_isLogged_252 : decode cL_isLogged 252 = .ok (.iload 5, 2) := by decide +kernel
theorem dL_isLogged_254 : decode cL_isLogged 254 = .ok (.bipush 64, 2) := by decide +kernel
theorem dL_isLogged_256 : decode cL_isLogged 256 = .ok (.if_icmp .ge 36, 3) := by decide +kernel
theorem dL_isLogged_259 : decode cL_isLogged 259 = .ok (.aload_n 1, 1) := by decide +kernel
theorem dL_isLogged_260 : decode cL_isLogged 260 = .ok (.iload 5, 2) := by decide +kernel
theorem dL_isLogged_262 : decode cL_isLogged 262 = .ok (.aload_n 1, 1) := by decide +kernel
theorem dL_isLogged_263 : decode cL_isLogged 263 = .ok (.iload 5, 2) := by decide +kernel
theorem dL_isLogged_265 : decode cL_isLogged 265 = .ok (.laload, 1) := by decide +kernel
theorem dL_isLogged_266 : decode cL_isLogged 266 = .ok (.bipush 60, 2) := by decide +kernel
theorem dL_isLogged_268 : decode cL_isLogged 268 = .ok (.iconst 0, 1) := by decide +kernel
theorem dL_isLogged_269 : decode cL_isLogged 269 = .ok (.invokestatic 31, 3) := by decide +kernel
theorem dL_isLogged_272 : decode cL_isLogged 272 = .ok (.bipush 61, 2) := by decide +kernel
theorem dL_isLogged_274 : decode cL_isLogged 274 = .ok (.aload_n 1, 1) := by decide +kernel
theorem dL_isLogged_275 : decode cL_isLogged 275 = .ok (.iload 5, 2) := by decide +kernel
theorem dL_isLogged_277 : decode cL_isLogged 277 = .ok (.bipush 62, 2) := by decide +kernel
theorem dL_isLogged_279 : decode cL_isLogged 279 = .ok (.invokestatic 23, 3) := by decide +kernel
theorem dL_isLogged_282 : decode cL_isLogged 282 = .ok (.invokestatic 31, 3) := by decide +kernel
theorem dL_isLogged_285 : decode cL_isLogged 285 = .ok (.lastore, 1) := by decide +kernel
theorem dL_isLogged_286 : decode cL_isLogged 286 = .ok (.iinc 5 1, 3) := by decide +kernel
theorem dL_isLogged_289 : decode cL_isLogged 289 = .ok (.goto (-37), 3) := by decide +kernel
theorem dL_isLogged_292 : decode cL_isLogged 292 = .ok (.aload_n 2, 1) := by decide +kernel
theorem dL_isLogged_293 : decode cL_isLogged 293 = .ok (.iconst 0, 1) := by decide +kernel
theorem dL_isLogged_294 : decode cL_isLogged 294 = .ok (.dup2, 1) := by decide +kernel
theorem dL_isLogged_295 : decode cL_isLogged 295 = .ok (.iaload, 1) := by decide +kernel
theorem dL_isLogged_296 : decode cL_isLogged 296 = .ok (.iconst 1, 1) := by decide +kernel
theorem dL_isLogged_297 : decode cL_isLogged 297 = .ok (.iadd, 1) := by decide +kernel
theorem dL_isLogged_298 : decode cL_isLogged 298 = .ok (.iastore, 1) := by decide +kernel
theorem dL_isLogged_299 : decode cL_isLogged 299 = .ok (.iload 4, 2) := by decide +kernel
theorem dL_isLogged_301 : decode cL_isLogged 301 = .ok (.ifCond .eq 27, 3) := by decide +kernel
theorem dL_isLogged_304 : decode cL_isLogged 304 = .ok (.aload_n 0, 1) := by decide +kernel
theorem dL_isLogged_305 : decode cL_isLogged 305 = .ok (.invokevirtual 62, 3) := by decide +kernel
theorem dL_isLogged_308 : decode cL_isLogged 308 = .ok (.aload_n 2, 1) := by decide +kernel
theorem dL_isLogged_309 : decode cL_isLogged 309 = .ok (.iconst 2, 1) := by decide +kernel
theorem dL_isLogged_310 : decode cL_isLogged 310 = .ok (.iaload, 1) := by decide +kernel
theorem dL_isLogged_311 : decode cL_isLogged 311 = .ok (.if_icmp .ne 17, 3) := by decide +kernel
theorem dL_isLogged_314 : decode cL_isLogged 314 = .ok (.aload_n 0, 1) := by decide +kernel
theorem dL_isLogged_315 : decode cL_isLogged 315 = .ok (.invokevirtual 66, 3) := by decide +kernel
theorem dL_isLogged_318 : decode cL_isLogged 318 = .ok (.aload_n 2, 1) := by decide +kernel
theorem dL_isLogged_319 : decode cL_isLogged 319 = .ok (.iconst 0, 1) := by decide +kernel
theorem dL_isLogged_320 : decode cL_isLogged 320 = .ok (.iaload, 1) := by decide +kernel
theorem dL_isLogged_321 : decode cL_isLogged 321 = .ok (.if_icmp .ne 7, 3) := by decide +kernel
theorem dL_isLogged_324 : decode cL_isLogged 324 = .ok (.iconst 1, 1) := by decide +kernel
theorem dL_isLogged_325 : decode cL_isLogged 325 = .ok (.goto 4, 3) := by decide +kernel
theorem dL_isLogged_328 : decode cL_isLogged 328 = .ok (.iconst 0, 1) := by decide +kernel
theorem dL_isLogged_329 : decode cL_isLogged 329 = .ok (.ireturn, 1) := by decide +kernel
theorem dL_keep_0 : decode cL_keep 0 = .ok (.iconst 0, 1) := by decide +kernel
theorem dL_keep_1 : decode cL_keep 1 = .ok (.istore 6, 2) := by decide +kernel
theorem dL_keep_3 : decode cL_keep 3 = .ok (.iload 6, 2) := by decide +kernel
theorem dL_keep_5 : decode cL_keep 5 = .ok (.bipush 64, 2) := by decide +kernel
theorem dL_keep_7 : decode cL_keep 7 = .ok (.if_icmp .ge 47, 3) := by decide +kernel
theorem dL_keep_10 : decode cL_keep 10 = .ok (.aload_n 3, 1) := by decide +kernel
theorem dL_keep_11 : decode cL_keep 11 = .ok (.iload 6, 2) := by decide +kernel
theorem dL_keep_13 : decode cL_keep 13 = .ok (.bipush 28, 2) := by decide +kernel
theorem dL_keep_15 : decode cL_keep 15 = .ok (.irem, 1) := by decide +kernel
theorem dL_keep_16 : decode cL_keep 16 = .ok (.aload_n 0, 1) := by decide +kernel
theorem dL_keep_17 : decode cL_keep 17 = .ok (.iload 6, 2) := by decide +kernel
theorem dL_keep_19 : decode cL_keep 19 = .ok (.bipush 28, 2) := by decide +kernel
theorem dL_keep_21 : decode cL_keep 21 = .ok (.irem, 1) := by decide +kernel
theorem dL_keep_22 : decode cL_keep 22 = .ok (.iaload, 1) := by decide +kernel
theorem dL_keep_23 : decode cL_keep 23 = .ok (.iastore, 1) := by decide +kernel
theorem dL_keep_24 : decode cL_keep 24 = .ok (.aload 4, 2) := by decide +kernel
theorem dL_keep_26 : decode cL_keep 26 = .ok (.iload 6, 2) := by decide +kernel
theorem dL_keep_28 : decode cL_keep 28 = .ok (.aload_n 1, 1) := by decide +kernel
theorem dL_keep_29 : decode cL_keep 29 = .ok (.iload 6, 2) := by decide +kernel
theorem dL_keep_31 : decode cL_keep 31 = .ok (.laload, 1) := by decide +kernel
theorem dL_keep_32 : decode cL_keep 32 = .ok (.lastore, 1) := by decide +kernel
theorem dL_keep_33 : decode cL_keep 33 = .ok (.aload 5, 2) := by decide +kernel
theorem dL_keep_35 : decode cL_keep 35 = .ok (.iload 6, 2) := by decide +kernel
theorem dL_keep_37 : decode cL_keep 37 = .ok (.bipush 32, 2) := by decide +kernel
theorem dL_keep_39 : decode cL_keep 39 = .ok (.irem, 1) := by decide +kernel
theorem dL_keep_40 : decode cL_keep 40 = .ok (.aload_n 2, 1) := by decide +kernel
theorem dL_keep_41 : decode cL_keep 41 = .ok (.iload 6, 2) := by decide +kernel
theorem dL_keep_43 : decode cL_keep 43 = .ok (.bipush 32, 2) := by decide +kernel
theorem dL_keep_45 : decode cL_keep 45 = .ok (.irem, 1) := by decide +kernel
theorem dL_keep_46 : decode cL_keep 46 = .ok (.iaload, 1) := by decide +kernel
theorem dL_keep_47 : decode cL_keep 47 = .ok (.iastore, 1) := by decide +kernel
theorem dL_keep_48 : decode cL_keep 48 = .ok (.iinc 6 1, 3) := by decide +kernel
theorem dL_keep_51 : decode cL_keep 51 = .ok (.goto (-48), 3) := by decide +kernel
theorem dL_keep_54 : decode cL_keep 54 = .ok (.return_, 1) := by decide +kernel
theorem dL_areBlocks_0 : decode cL_areBlocks 0 = .ok (.iconst 0, 1) := by decide +kernel
theorem dL_areBlocks_1 : decode cL_areBlocks 1 = .ok (.istore 4, 2) := by decide +kernel
theorem dL_areBlocks_3 : decode cL_areBlocks 3 = .ok (.iconst 0, 1) := by decide +kernel
theorem dL_areBlocks_4 : decode cL_areBlocks 4 = .ok (.istore 5, 2) := by decide +kernel
theorem dL_areBlocks_6 : decode cL_areBlocks 6 = .ok (.iconst 1, 1) := by decide +kernel
theorem dL_areBlocks_7 : decode cL_areBlocks 7 = .ok (.istore 6, 2) := by decide +kernel
theorem dL_areBlocks_9 : decode cL_areBlocks 9 = .ok (.iconst 0, 1) := by decide +kernel
theorem dL_areBlocks_10 : decode cL_areBlocks 10 = .ok (.istore 7, 2) := by decide +kernel
theorem dL_areBlocks_12 : decode cL_areBlocks 12 = .ok (.iload 7, 2) := by decide +kernel
theorem dL_areBlocks_14 : decode cL_areBlocks 14 = .ok (.bipush 64, 2) := by decide +kernel
theorem dL_areBlocks_16 : decode cL_areBlocks 16 = .ok (.if_icmp .ge 221, 3) := by decide +kernel
theorem dL_areBlocks_19 : decode cL_areBlocks 19 = .ok (.iload 6, 2) := by decide +kernel
theorem dL_areBlocks_21 : decode cL_areBlocks 21 = .ok (.ifCond .eq 216, 3) := by decide +kernel
theorem dL_areBlocks_24 : decode cL_areBlocks 24 = .ok (.iload 4, 2) := by decide +kernel
theorem dL_areBlocks_26 : decode cL_areBlocks 26 = .ok (.aload_n 2, 1) := by decide +kernel
theorem dL_areBlocks_27 : decode cL_areBlocks 27 = .ok (.iload 7, 2) := by decide +kernel
theorem dL_areBlocks_29 : decode cL_areBlocks 29 = .ok (.bipush 60, 2) := by decide +kernel
theorem dL_areBlocks_31 : decode cL_areBlocks 31 = .ok (.invokestatic 23, 3) := by decide +kernel
theorem dL_areBlocks_34 : decode cL_areBlocks 34 = .ok (.ifCond .eq 7, 3) := by decide +kernel
theorem dL_areBlocks_37 : decode cL_areBlocks 37 = .ok (.iconst 1, 1) := by decide +kernel
theorem dL_areBlocks_38 : decode cL_areBlocks 38 = .ok (.goto 4, 3) := by decide +kernel
theorem dL_areBlocks_41 : decode cL_areBlocks 41 = .ok (.iconst 0, 1) := by decide +kernel
theorem dL_areBlocks_42 : decode cL_areBlocks 42 = .ok (.iadd, 1) := by decide +kernel
theorem dL_areBlocks_43 : decode cL_areBlocks 43 = .ok (.istore 4, 2) := by decide +kernel
theorem dL_areBlocks_45 : decode cL_areBlocks 45 = .ok (.iload 5, 2) := by decide +kernel
theorem dL_areBlocks_47 : decode cL_areBlocks 47 = .ok (.aload_n 2, 1) := by decide +kernel
theorem dL_areBlocks_48 : decode cL_areBlocks 48 = .ok (.iload 7, 2) := by decide +kernel
theorem dL_areBlocks_50 : decode cL_areBlocks 50 = .ok (.bipush 60, 2) := by decide +kernel
theorem dL_areBlocks_52 : decode cL_areBlocks 52 = .ok (.invokestatic 23, 3) := by decide +kernel
theorem dL_areBlocks_55 : decode cL_areBlocks 55 = .ok (.ifCond .ne 14, 3) := by decide +kernel
theorem dL_areBlocks_58 : decode cL_areBlocks 58 = .ok (.aload_n 2, 1) := by decide +kernel
theorem dL_areBlocks_59 : decode cL_areBlocks 59 = .ok (.iload 7, 2) := by decide +kernel
theorem dL_areBlocks_61 : decode cL_areBlocks 61 = .ok (.bipush 62, 2) := by decide +kernel
theorem dL_areBlocks_63 : decode cL_areBlocks 63 = .ok (.invokestatic 23, 3) := by decide +kernel
theorem dL_areBlocks_66 : decode cL_areBlocks 66 = .ok (.ifCond .eq 7, 3) := by decide +kernel
theorem dL_areBlocks_69 : decode cL_areBlocks 69 = .ok (.iconst 1, 1) := by decide +kernel
theorem dL_areBlocks_70 : decode cL_areBlocks 70 = .ok (.goto 4, 3) := by decide +kernel
theorem dL_areBlocks_73 : decode cL_areBlocks 73 = .ok (.iconst 0, 1) := by decide +kernel
theorem dL_areBlocks_74 : decode cL_areBlocks 74 = .ok (.iadd, 1) := by decide +kernel
theorem dL_areBlocks_75 : decode cL_areBlocks 75 = .ok (.istore 5, 2) := by decide +kernel
theorem dL_areBlocks_77 : decode cL_areBlocks 77 = .ok (.aload_n 0, 1) := by decide +kernel
theorem dL_areBlocks_78 : decode cL_areBlocks 78 = .ok (.iload 7, 2) := by decide +kernel
theorem dL_areBlocks_80 : decode cL_areBlocks 80 = .ok (.invokestatic 13, 3) := by decide +kernel
theorem dL_areBlocks_83 : decode cL_areBlocks 83 = .ok (.invokevirtual 69, 3) := by decide +kernel
theorem dL_areBlocks_86 : decode cL_areBlocks 86 = .ok (.aload_n 1, 1) := by decide +kernel
theorem dL_areBlocks_87 : decode cL_areBlocks 87 = .ok (.iload 7, 2) := by decide +kernel
theorem dL_areBlocks_89 : decode cL_areBlocks 89 = .ok (.invokestatic 13, 3) := by decide +kernel
theorem dL_areBlocks_92 : decode cL_areBlocks 92 = .ok (.iconst 0, 1) := by decide +kernel
theorem dL_areBlocks_93 : decode cL_areBlocks 93 = .ok (.bipush 28, 2) := by decide +kernel
theorem dL_areBlocks_95 : decode cL_areBlocks 95 = .ok (.invokestatic 19, 3) := by decide +kernel
theorem dL_areBlocks_98 : decode cL_areBlocks 98 = .ok (.if_icmp .ne 36, 3) := by decide +kernel
theorem dL_areBlocks_101 : decode cL_areBlocks 101 = .ok (.aload_n 2, 1) := by decide +kernel
theorem dL_areBlocks_102 : decode cL_areBlocks 102 = .ok (.iload 7, 2) := by decide +kernel
theorem dL_areBlocks_104 : decode cL_areBlocks 104 = .ok (.bipush 62, 2) := by decide +kernel
theorem dL_areBlocks_106 : decode cL_areBlocks 106 = .ok (.invokestatic 23, 3) := by decide +kernel
theorem dL_areBlocks_109 : decode cL_areBlocks 109 = .ok (.ifCond .eq 21, 3) := by decide +kernel
theorem dL_areBlocks_112 : decode cL_areBlocks 112 = .ok (.aload_n 0, 1) := by decide +kernel
theorem dL_areBlocks_113 : decode cL_areBlocks 113 = .ok (.iload 7, 2) := by decide +kernel
theorem dL_areBlocks_115 : decode cL_areBlocks 115 = .ok (.invokestatic 13, 3) := by decide +kernel
theorem dL_areBlocks_118 : decode cL_areBlocks 118 = .ok (.invokevirtual 72, 3) := by decide +kernel
theorem dL_areBlocks_121 : decode cL_areBlocks 121 = .ok (.aload_n 2, 1) := by decide +kernel
theorem dL_areBlocks_122 : decode cL_areBlocks 122 = .ok (.iload 7, 2) := by decide +kernel
theorem dL_areBlocks_124 : decode cL_areBlocks 124 = .ok (.invokestatic 27, 3) := by decide +kernel
theorem dL_areBlocks_127 : decode cL_areBlocks 127 = .ok (.if_icmp .ne 7, 3) := by decide +kernel
theorem dL_areBlocks_130 : decode cL_areBlocks 130 = .ok (.iconst 1, 1) := by decide +kernel
theorem dL_areBlocks_131 : decode cL_areBlocks 131 = .ok (.goto 4, 3) := by decide +kernel
theorem dL_areBlocks_134 : decode cL_areBlocks 134 = .ok (.iconst 0, 1) := by decide +kernel
theorem dL_areBlocks_135 : decode cL_areBlocks 135 = .ok (.istore 6, 2) := by decide +kernel
theorem dL_areBlocks_137 : decode cL_areBlocks 137 = .ok (.iload 7, 2) := by decide +kernel
theorem dL_areBlocks_139 : decode cL_areBlocks 139 = .ok (.bipush 16, 2) := by decide +kernel
theorem dL_areBlocks_141 : decode cL_areBlocks 141 = .ok (.irem, 1) := by decide +kernel
theorem dL_areBlocks_142 : decode cL_areBlocks 142 = .ok (.bipush 15, 2) := by decide +kernel
theorem dL_areBlocks_144 : decode cL_areBlocks 144 = .ok (.if_icmp .ne 87, 3) := by decide +kernel
theorem dL_areBlocks_147 : decode cL_areBlocks 147 = .ok (.iconst 0, 1) := by decide +kernel
theorem dL_areBlocks_148 : decode cL_areBlocks 148 = .ok (.istore 8, 2) := by decide +kernel
theorem dL_areBlocks_150 : decode cL_areBlocks 150 = .ok (.iload 7, 2) := by decide +kernel
theorem dL_areBlocks_152 : decode cL_areBlocks 152 = .ok (.bipush 15, 2) := by decide +kernel
theorem dL_areBlocks_154 : decode cL_areBlocks 154 = .ok (.isub, 1) := by decide +kernel
theorem dL_areBlocks_155 : decode cL_areBlocks 155 = .ok (.istore 9, 2) := by decide +kernel
theorem dL_areBlocks_157 : decode cL_areBlocks 157 = .ok (.iload 9, 2) := by decide +kernel
theorem dL_areBlocks_159 : decode cL_areBlocks 159 = .ok (.iload 7, 2) := by decide +kernel
theorem dL_areBlocks_161 : decode cL_areBlocks 161 = .ok (.if_icmp .gt 41, 3) := by decide +kernel
theorem dL_areBlocks_164 : decode cL_areBlocks 164 = .ok (.iload 8, 2) := by decide +kernel
theorem dL_areBlocks_166 : decode cL_areBlocks 166 = .ok (.aload_n 2, 1) := by decide +kernel
theorem dL_areBlocks_167 : decode cL_areBlocks 167 = .ok (.iload 9, 2) := by decide +kernel
theorem dL_areBlocks_169 : decode cL_areBlocks 169 = .ok (.bipush 60, 2) := by decide +kernel
theorem dL_areBlocks_171 : decode cL_areBlocks 171 = .ok (.invokestatic 23, 3) := by decide +kernel
theorem dL_areBlocks_174 : decode cL_areBlocks 174 = .ok (.ifCond .ne 14, 3) := by decide +kernel
theorem dL_areBlocks_177 : decode cL_areBlocks 177 = .ok (.aload_n 2, 1) := by decide +kernel
theorem dL_areBlocks_178 : decode cL_areBlocks 178 = .ok (.iload 9, 2) := by decide +kernel
theorem dL_areBlocks_180 : decode cL_areBlocks 180 = .ok (.bipush 62, 2) := by decide +kernel
theorem dL_areBlocks_182 : decode cL_areBlocks 182 = .ok (.invokestatic 23, 3) := by decide +kernel
theorem dL_areBlocks_185 : decode cL_areBlocks 185 = .ok (.ifCond .eq 7, 3) := by decide +kernel
theorem dL_areBlocks_188 : decode cL_areBlocks 188 = .ok (.iconst 1, 1) := by decide +kernel
theorem dL_areBlocks_189 : decode cL_areBlocks 189 = .ok (.goto 4, 3) := by decide +kernel
theorem dL_areBlocks_192 : decode cL_areBlocks 192 = .ok (.iconst 0, 1) := by decide +kernel
theorem dL_areBlocks_193 : decode cL_areBlocks 193 = .ok (.iadd, 1) := by decide +kernel
theorem dL_areBlocks_194 : decode cL_areBlocks 194 = .ok (.istore 8, 2) := by decide +kernel
theorem dL_areBlocks_196 : decode cL_areBlocks 196 = .ok (.iinc 9 1, 3) := by decide +kernel
theorem dL_areBlocks_199 : decode cL_areBlocks 199 = .ok (.goto (-42), 3) := by decide +kernel
theorem dL_areBlocks_202 : decode cL_areBlocks 202 = .ok (.iload 6, 2) := by decide +kernel
theorem dL_areBlocks_204 : decode cL_areBlocks 204 = .ok (.ifCond .eq 24, 3) := by decide +kernel
theorem dL_areBlocks_207 : decode cL_areBlocks 207 = .ok (.aload_n 0, 1) := by decide +kernel
theorem dL_areBlocks_208 : decode cL_areBlocks 208 = .ok (.iload 7, 2) := by decide +kernel
theorem dL_areBlocks_210 : decode cL_areBlocks 210 = .ok (.bipush 16, 2) := by decide +kernel
theorem dL_areBlocks_212 : decode cL_areBlocks 212 = .ok (.idiv, 1) := by decide +kernel
theorem dL_areBlocks_213 : decode cL_areBlocks 213 = .ok (.invokevirtual 74, 3) := by decide +kernel
theorem dL_areBlocks_216 : decode cL_areBlocks 216 = .ok (.bipush 32, 2) := by decide +kernel
theorem dL_areBlocks_218 : decode cL_areBlocks 218 = .ok (.iload 8, 2) := by decide +kernel
theorem dL_areBlocks_220 : decode cL_areBlocks 220 = .ok (.isub, 1) := by decide +kernel
theorem dL_areBlocks_221 : decode cL_areBlocks 221 = .ok (.if_icmp .ne 7, 3) := by decide +kernel
theorem dL_areBlocks_224 : decode cL_areBlocks 224 = .ok (.iconst 1, 1) := by decide +kernel
theorem dL_areBlocks_225 : decode cL_areBlocks 225 = .ok (.goto 4, 3) := by decide +kernel
theorem dL_areBlocks_228 : decode cL_areBlocks 228 = .ok (.iconst 0, 1) := by decide +kernel
theorem dL_areBlocks_229 : decode cL_areBlocks 229 = .ok (.istore 6, 2) := by decide +kernel
theorem dL_areBlocks_231 : decode cL_areBlocks 231 = .ok (.iinc 7 1, 3) := by decide +kernel
theorem dL_areBlocks_234 : decode cL_areBlocks 234 = .ok (.goto (-222), 3) := by decide +kernel
theorem dL_areBlocks_237 : decode cL_areBlocks 237 = .ok (.iload 6, 2) := by decide +kernel
theorem dL_areBlocks_239 : decode cL_areBlocks 239 = .ok (.ifCond .eq 39, 3) := by decide +kernel
theorem dL_areBlocks_242 : decode cL_areBlocks 242 = .ok (.aload_n 0, 1) := by decide +kernel
theorem dL_areBlocks_243 : decode cL_areBlocks 243 = .ok (.invokevirtual 77, 3) := by decide +kernel
theorem dL_areBlocks_246 : decode cL_areBlocks 246 = .ok (.iload 4, 2) := by decide +kernel
theorem dL_areBlocks_248 : decode cL_areBlocks 248 = .ok (.if_icmp .ne 30, 3) := by decide +kernel
theorem dL_areBlocks_251 : decode cL_areBlocks 251 = .ok (.aload_n 0, 1) := by decide +kernel
theorem dL_areBlocks_252 : decode cL_areBlocks 252 = .ok (.invokevirtual 80, 3) := by decide +kernel
theorem dL_areBlocks_255 : decode cL_areBlocks 255 = .ok (.sipush 128, 3) := by decide +kernel
theorem dL_areBlocks_258 : decode cL_areBlocks 258 = .ok (.iload 5, 2) := by decide +kernel
theorem dL_areBlocks_260 : decode cL_areBlocks 260 = .ok (.isub, 1) := by decide +kernel
theorem dL_areBlocks_261 : decode cL_areBlocks 261 = .ok (.if_icmp .ne 17, 3) := by decide +kernel
theorem dL_areBlocks_264 : decode cL_areBlocks 264 = .ok (.aload_n 0, 1) := by decide +kernel
theorem dL_areBlocks_265 : decode cL_areBlocks 265 = .ok (.invokevirtual 66, 3) := by decide +kernel
theorem dL_areBlocks_268 : decode cL_areBlocks 268 = .ok (.aload_n 3, 1) := by decide +kernel
theorem dL_areBlocks_269 : decode cL_areBlocks 269 = .ok (.iconst 0, 1) := by decide +kernel
theorem dL_areBlocks_270 : decode cL_areBlocks 270 = .ok (.iaload, 1) := by decide +kernel
theorem dL_areBlocks_271 : decode cL_areBlocks 271 = .ok (.if_icmp .ne 7, 3) := by decide +kernel
theorem dL_areBlocks_274 : decode cL_areBlocks 274 = .ok (.iconst 1, 1) := by decide +kernel
theorem dL_areBlocks_275 : decode cL_areBlocks 275 = .ok (.goto 4, 3) := by decide +kernel
theorem dL_areBlocks_278 : decode cL_areBlocks 278 = .ok (.iconst 0, 1) := by decide +kernel
theorem dL_areBlocks_279 : decode cL_areBlocks 279 = .ok (.ireturn, 1) := by decide +kernel
theorem dL_value_0 : decode cL_value 0 = .ok (.iload_n 1, 1) := by decide +kernel
theorem dL_value_1 : decode cL_value 1 = .ok (.ifCond .ne 7, 3) := by decide +kernel
theorem dL_value_4 : decode cL_value 4 = .ok (.iconst 0, 1) := by decide +kernel
theorem dL_value_5 : decode cL_value 5 = .ok (.goto 12, 3) := by decide +kernel
theorem dL_value_8 : decode cL_value 8 = .ok (.aload_n 0, 1) := by decide +kernel
theorem dL_value_9 : decode cL_value 9 = .ok (.iload_n 1, 1) := by decide +kernel
theorem dL_value_10 : decode cL_value 10 = .ok (.iconst 1, 1) := by decide +kernel
theorem dL_value_11 : decode cL_value 11 = .ok (.isub, 1) := by decide +kernel
theorem dL_value_12 : decode cL_value 12 = .ok (.invokestatic 83, 3) := by decide +kernel
theorem dL_value_15 : decode cL_value 15 = .ok (.laload, 1) := by decide +kernel
theorem dL_value_16 : decode cL_value 16 = .ok (.l2i, 1) := by decide +kernel
theorem dL_value_17 : decode cL_value 17 = .ok (.ireturn, 1) := by decide +kernel
theorem dL_blocks_0 : decode cL_blocks 0 = .ok (.iconst 0, 1) := by decide +kernel
theorem dL_blocks_1 : decode cL_blocks 1 = .ok (.istore_n 3, 1) := by decide +kernel
theorem dL_blocks_2 : decode cL_blocks 2 = .ok (.iload_n 1, 1) := by decide +kernel
theorem dL_blocks_3 : decode cL_blocks 3 = .ok (.istore 4, 2) := by decide +kernel
theorem dL_blocks_5 : decode cL_blocks 5 = .ok (.iload 4, 2) := by decide +kernel
theorem dL_blocks_7 : decode cL_blocks 7 = .ok (.iload_n 1, 1) := by decide +kernel
theorem dL_blocks_8 : decode cL_blocks 8 = .ok (.iconst 4, 1) := by decide +kernel
theorem dL_blocks_9 : decode cL_blocks 9 = .ok (.iadd, 1) := by decide +kernel
theorem dL_blocks_10 : decode cL_blocks 10 = .ok (.if_icmp .ge 86, 3) := by decide +kernel
theorem dL_blocks_13 : decode cL_blocks 13 = .ok (.aload_n 0, 1) := by decide +kernel
theorem dL_blocks_14 : decode cL_blocks 14 = .ok (.iload 4, 2) := by decide +kernel
theorem dL_blocks_16 : decode cL_blocks 16 = .ok (.iaload, 1) := by decide +kernel
theorem dL_blocks_17 : decode cL_blocks 17 = .ok (.ifCond .le 23, 3) := by decide +kernel
theorem dL_blocks_20 : decode cL_blocks 20 = .ok (.aload_n 0, 1) := by decide +kernel
theorem dL_blocks_21 : decode cL_blocks 21 = .ok (.aload_n 0, 1) := by decide +kernel
theorem dL_blocks_22 : decode cL_blocks 22 = .ok (.iload 4, 2) := by decide +kernel
theorem dL_blocks_24 : decode cL_blocks 24 = .ok (.iaload, 1) := by decide +kernel
theorem dL_blocks_25 : decode cL_blocks 25 = .ok (.iconst 1, 1) := by decide +kernel
theorem dL_blocks_26 : decode cL_blocks 26 = .ok (.isub, 1) := by decide +kernel
theorem dL_blocks_27 : decode cL_blocks 27 = .ok (.iload_n 1, 1) := by decide +kernel
theorem dL_blocks_28 : decode cL_blocks 28 = .ok (.iload 4, 2) := by decide +kernel
theorem dL_blocks_30 : decode cL_blocks 30 = .ok (.invokestatic 19, 3) := by decide +kernel
theorem dL_blocks_33 : decode cL_blocks 33 = .ok (.ifCond .ne 7, 3) := by decide +kernel
theorem dL_blocks_36 : decode cL_blocks 36 = .ok (.iconst 1, 1) := by decide +kernel
theorem dL_blocks_37 : decode cL_blocks 37 = .ok (.goto 4, 3) := by decide +kernel
theorem dL_blocks_40 : decode cL_blocks 40 = .ok (.iconst 0, 1) := by decide +kernel
theorem dL_blocks_41 : decode cL_blocks 41 = .ok (.istore 5, 2) := by decide +kernel
theorem dL_blocks_43 : decode cL_blocks 43 = .ok (.iload_n 3, 1) := by decide +kernel
theorem dL_blocks_44 : decode cL_blocks 44 = .ok (.iload 5, 2) := by decide +kernel
theorem dL_blocks_46 : decode cL_blocks 46 = .ok (.ifCond .eq 41, 3) := by decide +kernel
theorem dL_blocks_49 : decode cL_blocks 49 = .ok (.iload_n 2, 1) := by decide +kernel
theorem dL_blocks_50 : decode cL_blocks 50 = .ok (.ifCond .eq 33, 3) := by decide +kernel
theorem dL_blocks_53 : decode cL_blocks 53 = .ok (.aload_n 0, 1) := by decide +kernel
theorem dL_blocks_54 : decode cL_blocks 54 = .ok (.aload_n 0, 1) := by decide +kernel
theorem dL_blocks_55 : decode cL_blocks 55 = .ok (.iload 4, 2) := by decide +kernel
theorem dL_blocks_57 : decode cL_blocks 57 = .ok (.iaload, 1) := by decide +kernel
theorem dL_blocks_58 : decode cL_blocks 58 = .ok (.iconst 1, 1) := by decide +kernel
theorem dL_blocks_59 : decode cL_blocks 59 = .ok (.isub, 1) := by decide +kernel
theorem dL_blocks_60 : decode cL_blocks 60 = .ok (.iconst 0, 1) := by decide +kernel
theorem dL_blocks_61 : decode cL_blocks 61 = .ok (.bipush 28, 2) := by decide +kernel
theorem dL_blocks_63 : decode cL_blocks 63 = .ok (.invokestatic 19, 3) := by decide +kernel
theorem dL_blocks_66 : decode cL_blocks 66 = .ok (.aload_n 0, 1) := by decide +kernel
theorem dL_blocks_67 : decode cL_blocks 67 = .ok (.aload_n 0, 1) := by decide +kernel
theorem dL_blocks_68 : decode cL_blocks 68 = .ok (.iload 4, 2) := by decide +kernel
theorem dL_blocks_70 : decode cL_blocks 70 = .ok (.iaload, 1) := by decide +kernel
theorem dL_blocks_71 : decode cL_blocks 71 = .ok (.iconst 1, 1) := by decide +kernel
theorem dL_blocks_72 : decode cL_blocks 72 = .ok (.isub, 1) := by decide +kernel
theorem dL_blocks_73 : decode cL_blocks 73 = .ok (.iload_n 1, 1) := by decide +kernel
theorem dL_blocks_74 : decode cL_blocks 74 = .ok (.iload_n 1, 1) := by decide +kernel
theorem dL_blocks_75 : decode cL_blocks 75 = .ok (.iconst 4, 1) := by decide +kernel
theorem dL_blocks_76 : decode cL_blocks 76 = .ok (.iadd, 1) := by decide +kernel
theorem dL_blocks_77 : decode cL_blocks 77 = .ok (.invokestatic 19, 3) := by decide +kernel
theorem dL_blocks_80 : decode cL_blocks 80 = .ok (.if_icmp .ne 7, 3) := by decide +kernel
theorem dL_blocks_83 : decode cL_blocks 83 = .ok (.iconst 1, 1) := by decide +kernel
theorem dL_blocks_84 : decode cL_blocks 84 = .ok (.goto 4, 3) := by decide +kernel
theorem dL_blocks_87 : decode cL_blocks 87 = .ok (.iconst 0, 1) := by decide +kernel
theorem dL_blocks_88 : decode cL_blocks 88 = .ok (.iadd, 1) := by decide +kernel
theorem dL_blocks_89 : decode cL_blocks 89 = .ok (.istore_n 3, 1) := by decide +kernel
theorem dL_blocks_90 : decode cL_blocks 90 = .ok (.iinc 4 1, 3) := by decide +kernel
theorem dL_blocks_93 : decode cL_blocks 93 = .ok (.goto (-88), 3) := by decide +kernel
theorem dL_blocks_96 : decode cL_blocks 96 = .ok (.iload_n 3, 1) := by decide +kernel
theorem dL_blocks_97 : decode cL_blocks 97 = .ok (.ireturn, 1) := by decide +kernel
theorem dL_isSet_0 : decode cL_isSet 0 = .ok (.iconst 0, 1) := by decide +kernel
theorem dL_isSet_1 : decode cL_isSet 1 = .ok (.istore 5, 2) := by decide +kernel
theorem dL_isSet_3 : decode cL_isSet 3 = .ok (.aload_n 0, 1) := by decide +kernel
theorem dL_isSet_4 : decode cL_isSet 4 = .ok (.iload 4, 2) := by decide +kernel
theorem dL_isSet_6 : decode cL_isSet 6 = .ok (.invokevirtual 86, 3) := by decide +kernel
theorem dL_isSet_9 : decode cL_isSet 9 = .ok (.aload_n 3, 1) := by decide +kernel
theorem dL_isSet_10 : decode cL_isSet 10 = .ok (.bipush 8, 2) := by decide +kernel
theorem dL_isSet_12 : decode cL_isSet 12 = .ok (.iload 4, 2) := by decide +kernel
theorem dL_isSet_14 : decode cL_isSet 14 = .ok (.iadd, 1) := by decide +kernel
theorem dL_isSet_15 : decode cL_isSet 15 = .ok (.iaload, 1) := by decide +kernel
theorem dL_isSet_16 : decode cL_isSet 16 = .ok (.iconst 1, 1) := by decide +kernel
theorem dL_isSet_17 : decode cL_isSet 17 = .ok (.isub, 1) := by decide +kernel
theorem dL_isSet_18 : decode cL_isSet 18 = .ok (.if_icmp .ne 43, 3) := by decide +kernel
theorem dL_isSet_21 : decode cL_isSet 21 = .ok (.aload_n 0, 1) := by decide +kernel
theorem dL_isSet_22 : decode cL_isSet 22 = .ok (.iload 4, 2) := by decide +kernel
theorem dL_isSet_24 : decode cL_isSet 24 = .ok (.invokevirtual 89, 3) := by decide +kernel
theorem dL_isSet_27 : decode cL_isSet 27 = .ok (.aload_n 1, 1) := by decide +kernel
theorem dL_isSet_28 : decode cL_isSet 28 = .ok (.iconst 4, 1) := by decide +kernel
theorem dL_isSet_29 : decode cL_isSet 29 = .ok (.iload 4, 2) := by decide +kernel
theorem dL_isSet_31 : decode cL_isSet 31 = .ok (.imul, 1) := by decide +kernel
theorem dL_isSet_32 : decode cL_isSet 32 = .ok (.iconst 0, 1) := by decide +kernel
theorem dL_isSet_33 : decode cL_isSet 33 = .ok (.invokestatic 92, 3) := by decide +kernel
theorem dL_isSet_36 : decode cL_isSet 36 = .ok (.if_icmp .ne 25, 3) := by decide +kernel
theorem dL_isSet_39 : decode cL_isSet 39 = .ok (.aload_n 0, 1) := by decide +kernel
theorem dL_isSet_40 : decode cL_isSet 40 = .ok (.iload 4, 2) := by decide +kernel
theorem dL_isSet_42 : decode cL_isSet 42 = .ok (.invokevirtual 96, 3) := by decide +kernel
theorem dL_isSet_45 : decode cL_isSet 45 = .ok (.aload_n 1, 1) := by decide +kernel
theorem dL_isSet_46 : decode cL_isSet 46 = .ok (.iconst 4, 1) := by decide +kernel
theorem dL_isSet_47 : decode cL_isSet 47 = .ok (.iload 4, 2) := by decide +kernel
theorem dL_isSet_49 : decode cL_isSet 49 = .ok (.imul, 1) := by decide +kernel
theorem dL_isSet_50 : decode cL_isSet 50 = .ok (.iconst 1, 1) := by decide +kernel
theorem dL_isSet_51 : decode cL_isSet 51 = .ok (.invokestatic 92, 3) := by decide +kernel
theorem dL_isSet_54 : decode cL_isSet 54 = .ok (.if_icmp .ne 7, 3) := by decide +kernel
theorem dL_isSet_57 : decode cL_isSet 57 = .ok (.iconst 1, 1) := by decide +kernel
theorem dL_isSet_58 : decode cL_isSet 58 = .ok (.goto 4, 3) := by decide +kernel
theorem dL_isSet_61 : decode cL_isSet 61 = .ok (.iconst 0, 1) := by decide +kernel
theorem dL_isSet_62 : decode cL_isSet 62 = .ok (.istore 6, 2) := by decide +kernel
theorem dL_isSet_64 : decode cL_isSet 64 = .ok (.iconst 0, 1) := by decide +kernel
theorem dL_isSet_65 : decode cL_isSet 65 = .ok (.istore 7, 2) := by decide +kernel
theorem dL_isSet_67 : decode cL_isSet 67 = .ok (.iload 7, 2) := by decide +kernel
theorem dL_isSet_69 : decode cL_isSet 69 = .ok (.iconst 4, 1) := by decide +kernel
theorem dL_isSet_70 : decode cL_isSet 70 = .ok (.if_icmp .ge 166, 3) := by decide +kernel
theorem dL_isSet_73 : decode cL_isSet 73 = .ok (.iload 6, 2) := by decide +kernel
theorem dL_isSet_75 : decode cL_isSet 75 = .ok (.ifCond .eq 161, 3) := by decide +kernel
theorem dL_isSet_78 : decode cL_isSet 78 = .ok (.aload_n 1, 1) := by decide +kernel
theorem dL_isSet_79 : decode cL_isSet 79 = .ok (.iconst 4, 1) := by decide +kernel
theorem dL_isSet_80 : decode cL_isSet 80 = .ok (.iload 4, 2) := by decide +kernel
theorem dL_isSet_82 : decode cL_isSet 82 = .ok (.imul, 1) := by decide +kernel
theorem dL_isSet_83 : decode cL_isSet 83 = .ok (.iload 7, 2) := by decide +kernel
theorem dL_isSet_85 : decode cL_isSet 85 = .ok (.iadd, 1) := by decide +kernel
theorem dL_isSet_86 : decode cL_isSet 86 = .ok (.iaload, 1) := by decide +kernel
theorem dL_isSet_87 : decode cL_isSet 87 = .ok (.istore 8, 2) := by decide +kernel
theorem dL_isSet_89 : decode cL_isSet 89 = .ok (.iload 5, 2) := by decide +kernel
theorem dL_isSet_91 : decode cL_isSet 91 = .ok (.iload 8, 2) := by decide +kernel
theorem dL_isSet_93 : decode cL_isSet 93 = .ok (.ifCond .le 26, 3) := by decide +kernel
theorem dL_isSet_96 : decode cL_isSet 96 = .ok (.aload_n 2, 1) := by decide +kernel
theorem dL_isSet_97 : decode cL_isSet 97 = .ok (.iload 8, 2) := by decide +kernel
theorem dL_isSet_99 : decode cL_isSet 99 = .ok (.iconst 1, 1) := by decide +kernel
theorem dL_isSet_100 : decode cL_isSet 100 = .ok (.isub, 1) := by decide +kernel
theorem dL_isSet_101 : decode cL_isSet 101 = .ok (.invokestatic 83, 3) := by decide +kernel
theorem dL_isSet_104 : decode cL_isSet 104 = .ok (.invokestatic 27, 3) := by decide +kernel
theorem dL_isSet_107 : decode cL_isSet 107 = .ok (.aload_n 3, 1) := by decide +kernel
theorem dL_isSet_108 : decode cL_isSet 108 = .ok (.iconst 0, 1) := by decide +kernel
theorem dL_isSet_109 : decode cL_isSet 109 = .ok (.iaload, 1) := by decide +kernel
theorem dL_isSet_110 : decode cL_isSet 110 = .ok (.iconst 2, 1) := by decide +kernel
theorem dL_isSet_111 : decode cL_isSet 111 = .ok (.isub, 1) := by decide +kernel
theorem dL_isSet_112 : decode cL_isSet 112 = .ok (.if_icmp .le 7, 3) := by decide +kernel
theorem dL_isSet_115 : decode cL_isSet 115 = .ok (.iconst 1, 1) := by decide +kernel
theorem dL_isSet_116 : decode cL_isSet 116 = .ok (.goto 4, 3) := by decide +kernel
theorem dL_isSet_119 : decode cL_isSet 119 = .ok (.iconst 0, 1) := by decide +kernel
theorem dL_isSet_120 : decode cL_isSet 120 = .ok (.iadd, 1) := by decide +kernel
theorem dL_isSet_121 : decode cL_isSet 121 = .ok (.istore 5, 2) := by decide +kernel
theorem dL_isSet_123 : decode cL_isSet 123 = .ok (.aload_n 0, 1) := by decide +kernel
theorem dL_isSet_124 : decode cL_isSet 124 = .ok (.iload 4, 2) := by decide +kernel
theorem dL_isSet_126 : decode cL_isSet 126 = .ok (.iload 7, 2) := by decide +kernel
theorem dL_isSet_128 : decode cL_isSet 128 = .ok (.iconst 2, 1) := by decide +kernel
theorem dL_isSet_129 : decode cL_isSet 129 = .ok (.idiv, 1) := by decide +kernel
theorem dL_isSet_130 : decode cL_isSet 130 = .ok (.iload 7, 2) := by decide +kernel
theorem dL_isSet_132 : decode cL_isSet 132 = .ok (.iconst 2, 1) := by decide +kernel
theorem dL_isSet_133 : decode cL_isSet 133 = .ok (.irem, 1) := by decide +kernel
theorem dL_isSet_134 : decode cL_isSet 134 = .ok (.invokevirtual 99, 3) := by decide +kernel
theorem dL_isSet_137 : decode cL_isSet 137 = .ok (.iload 8, 2) := by decide +kernel
theorem dL_isSet_139 : decode cL_isSet 139 = .ok (.iconst 1, 1) := by decide +kernel
theorem dL_isSet_140 : decode cL_isSet 140 = .ok (.isub, 1) := by decide +kernel
theorem dL_isSet_141 : decode cL_isSet 141 = .ok (.if_icmp .ne 86, 3) := by decide +kernel
theorem dL_isSet_144 : decode cL_isSet 144 = .ok (.aload_n 0, 1) := by decide +kernel
theorem dL_isSet_145 : decode cL_isSet 145 = .ok (.iload 4, 2) := by decide +kernel
theorem dL_isSet_147 : decode cL_isSet 147 = .ok (.iload 7, 2) := by decide +kernel
theorem dL_isSet_149 : decode cL_isSet 149 = .ok (.iconst 2, 1) := by decide +kernel
theorem dL_isSet_150 : decode cL_isSet 150 = .ok (.idiv, 1) := by decide +kernel
theorem dL_isSet_151 : decode cL_isSet 151 = .ok (.iload 7, 2) := by decide +kernel
theorem dL_isSet_153 : decode cL_isSet 153 = .ok (.iconst 2, 1) := by decide +kernel
theorem dL_isSet_154 : decode cL_isSet 154 = .ok (.irem, 1) := by decide +kernel
theorem dL_isSet_155 : decode cL_isSet 155 = .ok (.invokevirtual 103, 3) := by decide +kernel
theorem dL_isSet_158 : decode cL_isSet 158 = .ok (.aload_n 2, 1) := by decide +kernel
theorem dL_isSet_159 : decode cL_isSet 159 = .ok (.iload 8, 2) := by decide +kernel
theorem dL_isSet_161 : decode cL_isSet 161 = .ok (.invokestatic 106, 3) := by decide +kernel
theorem dL_isSet_164 : decode cL_isSet 164 = .ok (.if_icmp .ne 63, 3) := by decide +kernel
theorem dL_isSet_167 : decode cL_isSet 167 = .ok (.aload_n 0, 1) := by decide +kernel
theorem dL_isSet_168 : decode cL_isSet 168 = .ok (.iload 4, 2) := by decide +kernel
theorem dL_isSet_170 : decode cL_isSet 170 = .ok (.iload 7, 2) := by decide +kernel
theorem dL_isSet_172 : decode cL_isSet 172 = .ok (.iconst 2, 1) := by decide +kernel
theorem dL_isSet_173 : decode cL_isSet 173 = .ok (.idiv, 1) := by decide +kernel
theorem dL_isSet_174 : decode cL_isSet 174 = .ok (.invokevirtual 109, 3) := by decide +kernel
theorem dL_isSet_177 : decode cL_isSet 177 = .ok (.aload_n 1, 1) := by decide +kernel
theorem dL_isSet_178 : decode cL_isSet 178 = .ok (.iconst 4, 1) := by decide +kernel
theorem dL_isSet_179 : decode cL_isSet 179 = .ok (.iload 4, 2) := by decide +kernel
theorem dL_isSet_181 : decode cL_isSet 181 = .ok (.imul, 1) := by decide +kernel
theorem dL_isSet_182 : decode cL_isSet 182 = .ok (.iload 7, 2) := by decide +kernel
theorem dL_isSet_184 : decode cL_isSet 184 = .ok (.iconst 2, 1) := by decide +kernel
theorem dL_isSet_185 : decode cL_isSet 185 = .ok (.idiv, 1) := by decide +kernel
theorem dL_isSet_186 : decode cL_isSet 186 = .ok (.iconst 2, 1) := by decide +kernel
theorem dL_isSet_187 : decode cL_isSet 187 = .ok (.imul, 1) := by decide +kernel
theorem dL_isSet_188 : decode cL_isSet 188 = .ok (.iadd, 1) := by decide +kernel
theorem dL_isSet_189 : decode cL_isSet 189 = .ok (.iconst 1, 1) := by decide +kernel
theorem dL_isSet_190 : decode cL_isSet 190 = .ok (.iadd, 1) := by decide +kernel
theorem dL_isSet_191 : decode cL_isSet 191 = .ok (.iaload, 1) := by decide +kernel
theorem dL_isSet_192 : decode cL_isSet 192 = .ok (.ifCond .le 7, 3) := by decide +kernel
theorem dL_isSet_195 : decode cL_isSet 195 = .ok (.iconst 2, 1) := by decide +kernel
theorem dL_isSet_196 : decode cL_isSet 196 = .ok (.goto 24, 3) := by decide +kernel
theorem dL_isSet_199 : decode cL_isSet 199 = .ok (.aload_n 1, 1) := by decide +kernel
theorem dL_isSet_200 : decode cL_isSet 200 = .ok (.iconst 4, 1) := by decide +kernel
theorem dL_isSet_201 : decode cL_isSet 201 = .ok (.iload 4, 2) := by decide +kernel
theorem dL_isSet_203 : decode cL_isSet 203 = .ok (.imul, 1) := by decide +kernel
theorem dL_isSet_204 : decode cL_isSet 204 = .ok (.iload 7, 2) := by decide +kernel
theorem dL_isSet_206 : decode cL_isSet 206 = .ok (.iconst 2, 1) := by decide +kernel
theorem dL_isSet_207 : decode cL_isSet 207 = .ok (.idiv, 1) := by decide +kernel
theorem dL_isSet_208 : decode cL_isSet 208 = .ok (.iconst 2, 1) := by decide +kernel
theorem dL_isSet_209 : decode cL_isSet 209 = .ok (.imul, 1) := by decide +kernel
theorem dL_isSet_210 : decode cL_isSet 210 = .ok (.iadd, 1) := by decide +kernel
theorem dL_isSet_211 : decode cL_isSet 211 = .ok (.iaload, 1) := by decide +kernel
theorem dL_isSet_212 : decode cL_isSet 212 = .ok (.ifCond .le 7, 3) := by decide +kernel
theorem dL_isSet_215 : decode cL_isSet 215 = .ok (.iconst 1, 1) := by decide +kernel
theorem dL_isSet_216 : decode cL_isSet 216 = .ok (.goto 4, 3) := by decide +kernel
theorem dL_isSet_219 : decode cL_isSet 219 = .ok (.iconst 0, 1) := by decide +kernel
theorem dL_isSet_220 : decode cL_isSet 220 = .ok (.if_icmp .ne 7, 3) := by decide +kernel
theorem dL_isSet_223 : decode cL_isSet 223 = .ok (.iconst 1, 1) := by decide +kernel
theorem dL_isSet_224 : decode cL_isSet 224 = .ok (.goto 4, 3) := by decide +kernel
theorem dL_isSet_227 : decode cL_isSet 227 = .ok (.iconst 0, 1) := by decide +kernel
theorem dL_isSet_228 : decode cL_isSet 228 = .ok (.istore 6, 2) := by decide +kernel
theorem dL_isSet_230 : decode cL_isSet 230 = .ok (.iinc 7 1, 3) := by decide +kernel
theorem dL_isSet_233 : decode cL_isSet 233 = .ok (.goto (-166), 3) := by decide +kernel
theorem dL_isSet_236 : decode cL_isSet 236 = .ok (.iconst 0, 1) := by decide +kernel
theorem dL_isSet_237 : decode cL_isSet 237 = .ok (.istore 7, 2) := by decide +kernel
theorem dL_isSet_239 : decode cL_isSet 239 = .ok (.aload_n 3, 1) := by decide +kernel
theorem dL_isSet_240 : decode cL_isSet 240 = .ok (.iload 4, 2) := by decide +kernel
theorem dL_isSet_242 : decode cL_isSet 242 = .ok (.iconst 0, 1) := by decide +kernel
theorem dL_isSet_243 : decode cL_isSet 243 = .ok (.invokestatic 112, 3) := by decide +kernel
theorem dL_isSet_246 : decode cL_isSet 246 = .ok (.istore 8, 2) := by decide +kernel
theorem dL_isSet_248 : decode cL_isSet 248 = .ok (.iload 8, 2) := by decide +kernel
theorem dL_isSet_250 : decode cL_isSet 250 = .ok (.ifCond .lt 44, 3) := by decide +kernel
theorem dL_isSet_253 : decode cL_isSet 253 = .ok (.iload 6, 2) := by decide +kernel
theorem dL_isSet_255 : decode cL_isSet 255 = .ok (.ifCond .eq 39, 3) := by decide +kernel
theorem dL_isSet_258 : decode cL_isSet 258 = .ok (.aload_n 0, 1) := by decide +kernel
theorem dL_isSet_259 : decode cL_isSet 259 = .ok (.iload 4, 2) := by decide +kernel
theorem dL_isSet_261 : decode cL_isSet 261 = .ok (.iload 7, 2) := by decide +kernel
theorem dL_isSet_263 : decode cL_isSet 263 = .ok (.invokevirtual 116, 3) := by decide +kernel
theorem dL_isSet_266 : decode cL_isSet 266 = .ok (.iload 8, 2) := by decide +kernel
theorem dL_isSet_268 : decode cL_isSet 268 = .ok (.if_icmp .ne 7, 3) := by decide +kernel
theorem dL_isSet_271 : decode cL_isSet 271 = .ok (.iconst 1, 1) := by decide +kernel
theorem dL_isSet_272 : decode cL_isSet 272 = .ok (.goto 4, 3) := by decide +kernel
theorem dL_isSet_275 : decode cL_isSet 275 = .ok (.iconst 0, 1) := by decide +kernel
theorem dL_isSet_276 : decode cL_isSet 276 = .ok (.istore 6, 2) := by decide +kernel
theorem dL_isSet_278 : decode cL_isSet 278 = .ok (.iinc 7 1, 3) := by decide +kernel
theorem dL_isSet_281 : decode cL_isSet 281 = .ok (.aload_n 3, 1) := by decide +kernel
theorem dL_isSet_282 : decode cL_isSet 282 = .ok (.iload 4, 2) := by decide +kernel
theorem dL_isSet_284 : decode cL_isSet 284 = .ok (.iload 7, 2) := by decide +kernel
theorem dL_isSet_286 : decode cL_isSet 286 = .ok (.invokestatic 112, 3) := by decide +kernel
theorem dL_isSet_289 : decode cL_isSet 289 = .ok (.istore 8, 2) := by decide +kernel
theorem dL_isSet_291 : decode cL_isSet 291 = .ok (.goto (-43), 3) := by decide +kernel
theorem dL_isSet_294 : decode cL_isSet 294 = .ok (.iload 6, 2) := by decide +kernel
theorem dL_isSet_296 : decode cL_isSet 296 = .ok (.ifCond .eq 34, 3) := by decide +kernel
theorem dL_isSet_299 : decode cL_isSet 299 = .ok (.aload_n 0, 1) := by decide +kernel
theorem dL_isSet_300 : decode cL_isSet 300 = .ok (.iload 4, 2) := by decide +kernel
theorem dL_isSet_302 : decode cL_isSet 302 = .ok (.invokevirtual 119, 3) := by decide +kernel
theorem dL_isSet_305 : decode cL_isSet 305 = .ok (.iload 7, 2) := by decide +kernel
theorem dL_isSet_307 : decode cL_isSet 307 = .ok (.if_icmp .ne 23, 3) := by decide +kernel
theorem dL_isSet_310 : decode cL_isSet 310 = .ok (.aload_n 0, 1) := by decide +kernel
theorem dL_isSet_311 : decode cL_isSet 311 = .ok (.iload 4, 2) := by decide +kernel
theorem dL_isSet_313 : decode cL_isSet 313 = .ok (.aload_n 3, 1) := by decide +kernel
theorem dL_isSet_314 : decode cL_isSet 314 = .ok (.iconst 0, 1) := by decide +kernel
theorem dL_isSet_315 : decode cL_isSet 315 = .ok (.iaload, 1) := by decide +kernel
theorem dL_isSet_316 : decode cL_isSet 316 = .ok (.iconst 2, 1) := by decide +kernel
theorem dL_isSet_317 : decode cL_isSet 317 = .ok (.isub, 1) := by decide +kernel
theorem dL_isSet_318 : decode cL_isSet 318 = .ok (.invokevirtual 122, 3) := by decide +kernel
theorem dL_isSet_321 : decode cL_isSet 321 = .ok (.iload 5, 2) := by decide +kernel
theorem dL_isSet_323 : decode cL_isSet 323 = .ok (.if_icmp .ne 7, 3) := by decide +kernel
theorem dL_isSet_326 : decode cL_isSet 326 = .ok (.iconst 1, 1) := by decide +kernel
theorem dL_isSet_327 : decode cL_isSet 327 = .ok (.goto 4, 3) := by decide +kernel
theorem dL_isSet_330 : decode cL_isSet 330 = .ok (.iconst 0, 1) := by decide +kernel
theorem dL_isSet_331 : decode cL_isSet 331 = .ok (.ireturn, 1) := by decide +kernel
theorem dL_areShots_0 : decode cL_areShots 0 = .ok (.iconst 1, 1) := by decide +kernel
theorem dL_areShots_1 : decode cL_areShots 1 = .ok (.istore 4, 2) := by decide +kernel
theorem dL_areShots_3 : decode cL_areShots 3 = .ok (.iconst 0, 1) := by decide +kernel
theorem dL_areShots_4 : decode cL_areShots 4 = .ok (.istore 5, 2) := by decide +kernel
theorem dL_areShots_6 : decode cL_areShots 6 = .ok (.iload 5, 2) := by decide +kernel
theorem dL_areShots_8 : decode cL_areShots 8 = .ok (.iconst 4, 1) := by decide +kernel
theorem dL_areShots_9 : decode cL_areShots 9 = .ok (.if_icmp .ge 291, 3) := by decide +kernel
theorem dL_areShots_12 : decode cL_areShots 12 = .ok (.iload 4, 2) := by decide +kernel
theorem dL_areShots_14 : decode cL_areShots 14 = .ok (.ifCond .eq 286, 3) := by decide +kernel
theorem dL_areShots_17 : decode cL_areShots 17 = .ok (.aload_n 3, 1) := by decide +kernel
theorem dL_areShots_18 : decode cL_areShots 18 = .ok (.bipush 12, 2) := by decide +kernel
theorem dL_areShots_20 : decode cL_areShots 20 = .ok (.iload 5, 2) := by decide +kernel
theorem dL_areShots_22 : decode cL_areShots 22 = .ok (.iadd, 1) := by decide +kernel
theorem dL_areShots_23 : decode cL_areShots 23 = .ok (.iaload, 1) := by decide +kernel
theorem dL_areShots_24 : decode cL_areShots 24 = .ok (.iconst 1, 1) := by decide +kernel
theorem dL_areShots_25 : decode cL_areShots 25 = .ok (.isub, 1) := by decide +kernel
theorem dL_areShots_26 : decode cL_areShots 26 = .ok (.istore 6, 2) := by decide +kernel
theorem dL_areShots_28 : decode cL_areShots 28 = .ok (.iconst 0, 1) := by decide +kernel
theorem dL_areShots_29 : decode cL_areShots 29 = .ok (.istore 7, 2) := by decide +kernel
theorem dL_areShots_31 : decode cL_areShots 31 = .ok (.iload 7, 2) := by decide +kernel
theorem dL_areShots_33 : decode cL_areShots 33 = .ok (.iconst 4, 1) := by decide +kernel
theorem dL_areShots_34 : decode cL_areShots 34 = .ok (.if_icmp .ge 116, 3) := by decide +kernel
theorem dL_areShots_37 : decode cL_areShots 37 = .ok (.iload 4, 2) := by decide +kernel
theorem dL_areShots_39 : decode cL_areShots 39 = .ok (.ifCond .eq 111, 3) := by decide +kernel
theorem dL_areShots_42 : decode cL_areShots 42 = .ok (.iload 6, 2) := by decide +kernel
theorem dL_areShots_44 : decode cL_areShots 44 = .ok (.ifCond .lt 106, 3) := by decide +kernel
theorem dL_areShots_47 : decode cL_areShots 47 = .ok (.aload_n 1, 1) := by decide +kernel
theorem dL_areShots_48 : decode cL_areShots 48 = .ok (.bipush 12, 2) := by decide +kernel
theorem dL_areShots_50 : decode cL_areShots 50 = .ok (.iconst 4, 1) := by decide +kernel
theorem dL_areShots_51 : decode cL_areShots 51 = .ok (.iload 5, 2) := by decide +kernel
theorem dL_areShots_53 : decode cL_areShots 53 = .ok (.imul, 1) := by decide +kernel
theorem dL_areShots_54 : decode cL_areShots 54 = .ok (.iadd, 1) := by decide +kernel
theorem dL_areShots_55 : decode cL_areShots 55 = .ok (.iload 7, 2) := by decide +kernel
theorem dL_areShots_57 : decode cL_areShots 57 = .ok (.iadd, 1) := by decide +kernel
theorem dL_areShots_58 : decode cL_areShots 58 = .ok (.iaload, 1) := by decide +kernel
theorem dL_areShots_59 : decode cL_areShots 59 = .ok (.istore 8, 2) := by decide +kernel
theorem dL_areShots_61 : decode cL_areShots 61 = .ok (.aload_n 0, 1) := by decide +kernel
theorem dL_areShots_62 : decode cL_areShots 62 = .ok (.iload 6, 2) := by decide +kernel
theorem dL_areShots_64 : decode cL_areShots 64 = .ok (.iload 7, 2) := by decide +kernel
theorem dL_areShots_66 : decode cL_areShots 66 = .ok (.iconst 2, 1) := by decide +kernel
theorem dL_areShots_67 : decode cL_areShots 67 = .ok (.idiv, 1) := by decide +kernel
theorem dL_areShots_68 : decode cL_areShots 68 = .ok (.iload 7, 2) := by decide +kernel
theorem dL_areShots_70 : decode cL_areShots 70 = .ok (.iconst 2, 1) := by decide +kernel
theorem dL_areShots_71 : decode cL_areShots 71 = .ok (.irem, 1) := by decide +kernel
theorem dL_areShots_72 : decode cL_areShots 72 = .ok (.invokevirtual 125, 3) := by decide +kernel
theorem dL_areShots_75 : decode cL_areShots 75 = .ok (.iload 8, 2) := by decide +kernel
theorem dL_areShots_77 : decode cL_areShots 77 = .ok (.iconst 1, 1) := by decide +kernel
theorem dL_areShots_78 : decode cL_areShots 78 = .ok (.isub, 1) := by decide +kernel
theorem dL_areShots_79 : decode cL_areShots 79 = .ok (.if_icmp .ne 62, 3) := by decide +kernel
theorem dL_areShots_82 : decode cL_areShots 82 = .ok (.aload_n 0, 1) := by decide +kernel
theorem dL_areShots_83 : decode cL_areShots 83 = .ok (.iload 6, 2) := by decide +kernel
theorem dL_areShots_85 : decode cL_areShots 85 = .ok (.iload 7, 2) := by decide +kernel
theorem dL_areShots_87 : decode cL_areShots 87 = .ok (.iconst 2, 1) := by decide +kernel
theorem dL_areShots_88 : decode cL_areShots 88 = .ok (.idiv, 1) := by decide +kernel
theorem dL_areShots_89 : decode cL_areShots 89 = .ok (.iload 7, 2) := by decide +kernel
theorem dL_areShots_91 : decode cL_areShots 91 = .ok (.iconst 2, 1) := by decide +kernel
theorem dL_areShots_92 : decode cL_areShots 92 = .ok (.irem, 1) := by decide +kernel
theorem dL_areShots_93 : decode cL_areShots 93 = .ok (.invokevirtual 128, 3) := by decide +kernel
theorem dL_areShots_96 : decode cL_areShots 96 = .ok (.aload_n 2, 1) := by decide +kernel
theorem dL_areShots_97 : decode cL_areShots 97 = .ok (.iload 8, 2) := by decide +kernel
theorem dL_areShots_99 : decode cL_areShots 99 = .ok (.invokestatic 106, 3) := by decide +kernel
theorem dL_areShots_102 : decode cL_areShots 102 = .ok (.if_icmp .ne 39, 3) := by decide +kernel
theorem dL_areShots_105 : decode cL_areShots 105 = .ok (.aload_n 0, 1) := by decide +kernel
theorem dL_areShots_106 : decode cL_areShots 106 = .ok (.iload 6, 2) := by decide +kernel
theorem dL_areShots_108 : decode cL_areShots 108 = .ok (.invokevirtual 131, 3) := by decide +kernel
theorem dL_areShots_111 : decode cL_areShots 111 = .ok (.aload_n 3, 1) := by decide +kernel
theorem dL_areShots_112 : decode cL_areShots 112 = .ok (.bipush 20, 2) := by decide +kernel
theorem dL_areShots_114 : decode cL_areShots 114 = .ok (.iload 5, 2) := by decide +kernel
theorem dL_areShots_116 : decode cL_areShots 116 = .ok (.iadd, 1) := by decide +kernel
theorem dL_areShots_117 : decode cL_areShots 117 = .ok (.iaload, 1) := by decide +kernel
theorem dL_areShots_118 : decode cL_areShots 118 = .ok (.if_icmp .ne 23, 3) := by decide +kernel
theorem dL_areShots_121 : decode cL_areShots 121 = .ok (.aload_n 0, 1) := by decide +kernel
theorem dL_areShots_122 : decode cL_areShots 122 = .ok (.iload 6, 2) := by decide +kernel
theorem dL_areShots_124 : decode cL_areShots 124 = .ok (.invokevirtual 134, 3) := by decide +kernel
theorem dL_areShots_127 : decode cL_areShots 127 = .ok (.aload_n 3, 1) := by decide +kernel
theorem dL_areShots_128 : decode cL_areShots 128 = .ok (.bipush 16, 2) := by decide +kernel
theorem dL_areShots_130 : decode cL_areShots 130 = .ok (.iload 5, 2) := by decide +kernel
theorem dL_areShots_132 : decode cL_areShots 132 = .ok (.iadd, 1) := by decide +kernel
theorem dL_areShots_133 : decode cL_areShots 133 = .ok (.iaload, 1) := by decide +kernel
theorem dL_areShots_134 : decode cL_areShots 134 = .ok (.if_icmp .ne 7, 3) := by decide +kernel
theorem dL_areShots_137 : decode cL_areShots 137 = .ok (.iconst 1, 1) := by decide +kernel
theorem dL_areShots_138 : decode cL_areShots 138 = .ok (.goto 4, 3) := by decide +kernel
theorem dL_areShots_141 : decode cL_areShots 141 = .ok (.iconst 0, 1) := by decide +kernel
theorem dL_areShots_142 : decode cL_areShots 142 = .ok (.istore 4, 2) := by decide +kernel
theorem dL_areShots_144 : decode cL_areShots 144 = .ok (.iinc 7 1, 3) := by decide +kernel
theorem dL_areShots_147 : decode cL_areShots 147 = .ok (.goto (-116), 3) := by decide +kernel
theorem dL_areShots_150 : decode cL_areShots 150 = .ok (.iload 4, 2) := by decide +kernel
theorem dL_areShots_152 : decode cL_areShots 152 = .ok (.ifCond .eq 33, 3) := by decide +kernel
theorem dL_areShots_155 : decode cL_areShots 155 = .ok (.iload 6, 2) := by decide +kernel
theorem dL_areShots_157 : decode cL_areShots 157 = .ok (.ifCond .lt 24, 3) := by decide +kernel
theorem dL_areShots_160 : decode cL_areShots 160 = .ok (.aload_n 0, 1) := by decide +kernel
theorem dL_areShots_161 : decode cL_areShots 161 = .ok (.iload 6, 2) := by decide +kernel
theorem dL_areShots_163 : decode cL_areShots 163 = .ok (.invokevirtual 137, 3) := by decide +kernel
theorem dL_areShots_166 : decode cL_areShots 166 = .ok (.aload_n 1, 1) := by decide +kernel
theorem dL_areShots_167 : decode cL_areShots 167 = .ok (.bipush 12, 2) := by decide +kernel
theorem dL_areShots_169 : decode cL_areShots 169 = .ok (.iconst 4, 1) := by decide +kernel
theorem dL_areShots_170 : decode cL_areShots 170 = .ok (.iload 5, 2) := by decide +kernel
theorem dL_areShots_172 : decode cL_areShots 172 = .ok (.imul, 1) := by decide +kernel
theorem dL_areShots_173 : decode cL_areShots 173 = .ok (.iadd, 1) := by decide +kernel
theorem dL_areShots_174 : decode cL_areShots 174 = .ok (.iconst 1, 1) := by decide +kernel
theorem dL_areShots_175 : decode cL_areShots 175 = .ok (.invokestatic 92, 3) := by decide +kernel
theorem dL_areShots_178 : decode cL_areShots 178 = .ok (.if_icmp .ne 7, 3) := by decide +kernel
theorem dL_areShots_181 : decode cL_areShots 181 = .ok (.iconst 1, 1) := by decide +kernel
theorem dL_areShots_182 : decode cL_areShots 182 = .ok (.goto 4, 3) := by decide +kernel
