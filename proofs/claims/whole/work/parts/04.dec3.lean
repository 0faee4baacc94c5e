theorem dX7_snapshot_10 : decode cX7_snapshot 10 = .ok (.getfield 7, 3) := by decide +kernel
theorem dX7_snapshot_13 : decode cX7_snapshot 13 = .ok (.sipush 2394, 3) := by decide +kernel
theorem dX7_snapshot_16 : decode cX7_snapshot 16 = .ok (.iload_n 3, 1) := by decide +kernel
theorem dX7_snapshot_17 : decode cX7_snapshot 17 = .ok (.iadd, 1) := by decide +kernel
theorem dX7_snapshot_18 : decode cX7_snapshot 18 = .ok (.iaload, 1) := by decide +kernel
theorem dX7_snapshot_19 : decode cX7_snapshot 19 = .ok (.ifCond .ne 7, 3) := by decide +kernel
theorem dX7_snapshot_22 : decode cX7_snapshot 22 = .ok (.iload_n 3, 1) := by decide +kernel
theorem dX7_snapshot_23 : decode cX7_snapshot 23 = .ok (.goto 4, 3) := by decide +kernel
theorem dX7_snapshot_26 : decode cX7_snapshot 26 = .ok (.iload_n 2, 1) := by decide +kernel
theorem dX7_snapshot_27 : decode cX7_snapshot 27 = .ok (.istore_n 2, 1) := by decide +kernel
theorem dX7_snapshot_28 : decode cX7_snapshot 28 = .ok (.iinc 3 (-1), 3) := by decide +kernel
theorem dX7_snapshot_31 : decode cX7_snapshot 31 = .ok (.goto (-26), 3) := by decide +kernel
theorem dX7_snapshot_34 : decode cX7_snapshot 34 = .ok (.aload_n 0, 1) := by decide +kernel
theorem dX7_snapshot_35 : decode cX7_snapshot 35 = .ok (.aload_n 0, 1) := by decide +kernel
theorem dX7_snapshot_36 : decode cX7_snapshot 36 = .ok (.iload_n 1, 1) := by decide +kernel
theorem dX7_snapshot_37 : decode cX7_snapshot 37 = .ok (.invokevirtual 41, 3) := by decide +kernel
theorem dX7_snapshot_40 : decode cX7_snapshot 40 = .ok (.iload_n 2, 1) := by decide +kernel
theorem dX7_snapshot_41 : decode cX7_snapshot 41 = .ok (.ifCond .lt 7, 3) := by decide +kernel
theorem dX7_snapshot_44 : decode cX7_snapshot 44 = .ok (.iconst 1, 1) := by decide +kernel
theorem dX7_snapshot_45 : decode cX7_snapshot 45 = .ok (.goto 4, 3) := by decide +kernel
theorem dX7_snapshot_48 : decode cX7_snapshot 48 = .ok (.iconst 0, 1) := by decide +kernel
theorem dX7_snapshot_49 : decode cX7_snapshot 49 = .ok (.invokevirtual 59, 3) := by decide +kernel
theorem dX7_snapshot_52 : decode cX7_snapshot 52 = .ok (.ifCond .ne 5, 3) := by decide +kernel
theorem dX7_snapshot_55 : decode cX7_snapshot 55 = .ok (.iconst 0, 1) := by decide +kernel
theorem dX7_snapshot_56 : decode cX7_snapshot 56 = .ok (.ireturn, 1) := by decide +kernel
theorem dX7_snapshot_57 : decode cX7_snapshot 57 = .ok (.aload_n 0, 1) := by decide +kernel
theorem dX7_snapshot_58 : decode cX7_snapshot 58 = .ok (.getfield 7, 3) := by decide +kernel
theorem dX7_snapshot_61 : decode cX7_snapshot 61 = .ok (.sipush 3394, 3) := by decide +kernel
theorem dX7_snapshot_64 : decode cX7_snapshot 64 = .ok (.iaload, 1) := by decide +kernel
theorem dX7_snapshot_65 : decode cX7_snapshot 65 = .ok (.istore_n 3, 1) := by decide +kernel
theorem dX7_snapshot_66 : decode cX7_snapshot 66 = .ok (.aload_n 0, 1) := by decide +kernel
theorem dX7_snapshot_67 : decode cX7_snapshot 67 = .ok (.getfield 7, 3) := by decide +kernel
theorem dX7_snapshot_70 : decode cX7_snapshot 70 = .ok (.sipush 3394, 3) := by decide +kernel
theorem dX7_snapshot_73 : decode cX7_snapshot 73 = .ok (.dup2, 1) := by decide +kernel
theorem dX7_snapshot_74 : decode cX7_snapshot 74 = .ok (.iaload, 1) := by decide +kernel
theorem dX7_snapshot_75 : decode cX7_snapshot 75 = .ok (.iconst 1, 1) := by decide +kernel
theorem dX7_snapshot_76 : decode cX7_snapshot 76 = .ok (.iadd, 1) := by decide +kernel
theorem dX7_snapshot_77 : decode cX7_snapshot 77 = .ok (.iastore, 1) := by decide +kernel
theorem dX7_snapshot_78 : decode cX7_snapshot 78 = .ok (.aload_n 0, 1) := by decide +kernel
theorem dX7_snapshot_79 : decode cX7_snapshot 79 = .ok (.getfield 7, 3) := by decide +kernel
theorem dX7_snapshot_82 : decode cX7_snapshot 82 = .ok (.sipush 2394, 3) := by decide +kernel
theorem dX7_snapshot_85 : decode cX7_snapshot 85 = .ok (.iload_n 2, 1) := by decide +kernel
theorem dX7_snapshot_86 : decode cX7_snapshot 86 = .ok (.iadd, 1) := by decide +kernel
theorem dX7_snapshot_87 : decode cX7_snapshot 87 = .ok (.iload_n 3, 1) := by decide +kernel
theorem dX7_snapshot_88 : decode cX7_snapshot 88 = .ok (.iconst 1, 1) := by decide +kernel
theorem dX7_snapshot_89 : decode cX7_snapshot 89 = .ok (.iadd, 1) := by decide +kernel
theorem dX7_snapshot_90 : decode cX7_snapshot 90 = .ok (.iastore, 1) := by decide +kernel
theorem dX7_snapshot_91 : decode cX7_snapshot 91 = .ok (.aload_n 0, 1) := by decide +kernel
theorem dX7_snapshot_92 : decode cX7_snapshot 92 = .ok (.getfield 7, 3) := by decide +kernel
theorem dX7_snapshot_95 : decode cX7_snapshot 95 = .ok (.sipush 2406, 3) := by decide +kernel
theorem dX7_snapshot_98 : decode cX7_snapshot 98 = .ok (.iload_n 2, 1) := by decide +kernel
theorem dX7_snapshot_99 : decode cX7_snapshot 99 = .ok (.iadd, 1) := by decide +kernel
theorem dX7_snapshot_100 : decode cX7_snapshot 100 = .ok (.aload_n 0, 1) := by decide +kernel
theorem dX7_snapshot_101 : decode cX7_snapshot 101 = .ok (.getfield 7, 3) := by decide +kernel
theorem dX7_snapshot_104 : decode cX7_snapshot 104 = .ok (.sipush 3395, 3) := by decide +kernel
theorem dX7_snapshot_107 : decode cX7_snapshot 107 = .ok (.iaload, 1) := by decide +kernel
theorem dX7_snapshot_108 : decode cX7_snapshot 108 = .ok (.iastore, 1) := by decide +kernel
theorem dX7_snapshot_109 : decode cX7_snapshot 109 = .ok (.aload_n 0, 1) := by decide +kernel
theorem dX7_snapshot_110 : decode cX7_snapshot 110 = .ok (.getfield 7, 3) := by decide +kernel
theorem dX7_snapshot_113 : decode cX7_snapshot 113 = .ok (.sipush 2418, 3) := by decide +kernel
theorem dX7_snapshot_116 : decode cX7_snapshot 116 = .ok (.iload_n 2, 1) := by decide +kernel
theorem dX7_snapshot_117 : decode cX7_snapshot 117 = .ok (.iadd, 1) := by decide +kernel
theorem dX7_snapshot_118 : decode cX7_snapshot 118 = .ok (.iload_n 1, 1) := by decide +kernel
theorem dX7_snapshot_119 : decode cX7_snapshot 119 = .ok (.iastore, 1) := by decide +kernel
theorem dX7_snapshot_120 : decode cX7_snapshot 120 = .ok (.aload_n 0, 1) := by decide +kernel
theorem dX7_snapshot_121 : decode cX7_snapshot 121 = .ok (.getfield 7, 3) := by decide +kernel
theorem dX7_snapshot_124 : decode cX7_snapshot 124 = .ok (.sipush 2316, 3) := by decide +kernel
theorem dX7_snapshot_127 : decode cX7_snapshot 127 = .ok (.bipush 12, 2) := by decide +kernel
theorem dX7_snapshot_129 : decode cX7_snapshot 129 = .ok (.iload_n 1, 1) := by decide +kernel
theorem dX7_snapshot_130 : decode cX7_snapshot 130 = .ok (.imul, 1) := by decide +kernel
theorem dX7_snapshot_131 : decode cX7_snapshot 131 = .ok (.iadd, 1) := by decide +kernel
theorem dX7_snapshot_132 : decode cX7_snapshot 132 = .ok (.aload_n 0, 1) := by decide +kernel
theorem dX7_snapshot_133 : decode cX7_snapshot 133 = .ok (.getfield 7, 3) := by decide +kernel
theorem dX7_snapshot_136 : decode cX7_snapshot 136 = .ok (.sipush 2388, 3) := by decide +kernel
theorem dX7_snapshot_139 : decode cX7_snapshot 139 = .ok (.iload_n 1, 1) := by decide +kernel
theorem dX7_snapshot_140 : decode cX7_snapshot 140 = .ok (.iadd, 1) := by decide +kernel
theorem dX7_snapshot_141 : decode cX7_snapshot 141 = .ok (.iaload, 1) := by decide +kernel
theorem dX7_snapshot_142 : decode cX7_snapshot 142 = .ok (.iadd, 1) := by decide +kernel
theorem dX7_snapshot_143 : decode cX7_snapshot 143 = .ok (.iload_n 2, 1) := by decide +kernel
theorem dX7_snapshot_144 : decode cX7_snapshot 144 = .ok (.iastore, 1) := by decide +kernel
theorem dX7_snapshot_145 : decode cX7_snapshot 145 = .ok (.aload_n 0, 1) := by decide +kernel
theorem dX7_snapshot_146 : decode cX7_snapshot 146 = .ok (.getfield 7, 3) := by decide +kernel
theorem dX7_snapshot_149 : decode cX7_snapshot 149 = .ok (.sipush 2388, 3) := by decide +kernel
theorem dX7_snapshot_152 : decode cX7_snapshot 152 = .ok (.iload_n 1, 1) := by decide +kernel
theorem dX7_snapshot_153 : decode cX7_snapshot 153 = .ok (.iadd, 1) := by decide +kernel
theorem dX7_snapshot_154 : decode cX7_snapshot 154 = .ok (.dup2, 1) := by decide +kernel
theorem dX7_snapshot_155 : decode cX7_snapshot 155 = .ok (.iaload, 1) := by decide +kernel
theorem dX7_snapshot_156 : decode cX7_snapshot 156 = .ok (.iconst 1, 1) := by decide +kernel
theorem dX7_snapshot_157 : decode cX7_snapshot 157 = .ok (.iadd, 1) := by decide +kernel
theorem dX7_snapshot_158 : decode cX7_snapshot 158 = .ok (.iastore, 1) := by decide +kernel
theorem dX7_snapshot_159 : decode cX7_snapshot 159 = .ok (.iconst 0, 1) := by decide +kernel
theorem dX7_snapshot_160 : decode cX7_snapshot 160 = .ok (.istore 4, 2) := by decide +kernel
theorem dX7_snapshot_162 : decode cX7_snapshot 162 = .ok (.iload 4, 2) := by decide +kernel
theorem dX7_snapshot_164 : decode cX7_snapshot 164 = .ok (.sipush 128, 3) := by decide +kernel
theorem dX7_snapshot_167 : decode cX7_snapshot 167 = .ok (.if_icmp .ge 41, 3) := by decide +kernel
theorem dX7_snapshot_170 : decode cX7_snapshot 170 = .ok (.aload_n 0, 1) := by decide +kernel
theorem dX7_snapshot_171 : decode cX7_snapshot 171 = .ok (.getfield 7, 3) := by decide +kernel
theorem dX7_snapshot_174 : decode cX7_snapshot 174 = .ok (.sipush 768, 3) := by decide +kernel
theorem dX7_snapshot_177 : decode cX7_snapshot 177 = .ok (.sipush 128, 3) := by decide +kernel
theorem dX7_snapshot_180 : decode cX7_snapshot 180 = .ok (.iload_n 2, 1) := by decide +kernel
theorem dX7_snapshot_181 : decode cX7_snapshot 181 = .ok (.imul, 1) := by decide +kernel
theorem dX7_snapshot_182 : decode cX7_snapshot 182 = .ok (.iadd, 1) := by decide +kernel
theorem dX7_snapshot_183 : decode cX7_snapshot 183 = .ok (.iload 4, 2) := by decide +kernel
theorem dX7_snapshot_185 : decode cX7_snapshot 185 = .ok (.iadd, 1) := by decide +kernel
theorem dX7_snapshot_186 : decode cX7_snapshot 186 = .ok (.aload_n 0, 1) := by decide +kernel
theorem dX7_snapshot_187 : decode cX7_snapshot 187 = .ok (.getfield 7, 3) := by decide +kernel
theorem dX7_snapshot_190 : decode cX7_snapshot 190 = .ok (.iconst 0, 1) := by decide +kernel
theorem dX7_snapshot_191 : decode cX7_snapshot 191 = .ok (.sipush 128, 3) := by decide +kernel
theorem dX7_snapshot_194 : decode cX7_snapshot 194 = .ok (.iload_n 1, 1) := by decide +kernel
theorem dX7_snapshot_195 : decode cX7_snapshot 195 = .ok (.imul, 1) := by decide +kernel
theorem dX7_snapshot_196 : decode cX7_snapshot 196 = .ok (.iadd, 1) := by decide +kernel
theorem dX7_snapshot_197 : decode cX7_snapshot 197 = .ok (.iload 4, 2) := by decide +kernel
theorem dX7_snapshot_199 : decode cX7_snapshot 199 = .ok (.iadd, 1) := by decide +kernel
theorem dX7_snapshot_200 : decode cX7_snapshot 200 = .ok (.iaload, 1) := by decide +kernel
theorem dX7_snapshot_201 : decode cX7_snapshot 201 = .ok (.iastore, 1) := by decide +kernel
theorem dX7_snapshot_202 : decode cX7_snapshot 202 = .ok (.iinc 4 1, 3) := by decide +kernel
theorem dX7_snapshot_205 : decode cX7_snapshot 205 = .ok (.goto (-43), 3) := by decide +kernel
theorem dX7_snapshot_208 : decode cX7_snapshot 208 = .ok (.aload_n 0, 1) := by decide +kernel
theorem dX7_snapshot_209 : decode cX7_snapshot 209 = .ok (.invokevirtual 56, 3) := by decide +kernel
theorem dX7_snapshot_212 : decode cX7_snapshot 212 = .ok (.aload_n 0, 1) := by decide +kernel
theorem dX7_snapshot_213 : decode cX7_snapshot 213 = .ok (.invokevirtual 80, 3) := by decide +kernel
theorem dX7_snapshot_216 : decode cX7_snapshot 216 = .ok (.iadd, 1) := by decide +kernel
theorem dX7_snapshot_217 : decode cX7_snapshot 217 = .ok (.ifCond .ge 7, 3) := by decide +kernel
theorem dX7_snapshot_220 : decode cX7_snapshot 220 = .ok (.iconst 0, 1) := by decide +kernel
theorem dX7_snapshot_221 : decode cX7_snapshot 221 = .ok (.goto 4, 3) := by decide +kernel
theorem dX7_snapshot_224 : decode cX7_snapshot 224 = .ok (.iload_n 3, 1) := by decide +kernel
theorem dX7_snapshot_225 : decode cX7_snapshot 225 = .ok (.ireturn, 1) := by decide +kernel
theorem dX7_isShot_0 : decode cX7_isShot 0 = .ok (.aload_n 0, 1) := by decide +kernel
theorem dX7_isShot_1 : decode cX7_isShot 1 = .ok (.aload_n 0, 1) := by decide +kernel
theorem dX7_isShot_2 : decode cX7_isShot 2 = .ok (.iload_n 1, 1) := by decide +kernel
theorem dX7_isShot_3 : decode cX7_isShot 3 = .ok (.invokevirtual 83, 3) := by decide +kernel
theorem dX7_isShot_6 : decode cX7_isShot 6 = .ok (.ifCond .lt 15, 3) := by decide +kernel
theorem dX7_isShot_9 : decode cX7_isShot 9 = .ok (.iload_n 2, 1) := by decide +kernel
theorem dX7_isShot_10 : decode cX7_isShot 10 = .ok (.iload_n 3, 1) := by decide +kernel
theorem dX7_isShot_11 : decode cX7_isShot 11 = .ok (.invokestatic 44, 3) := by decide +kernel
theorem dX7_isShot_14 : decode cX7_isShot 14 = .ok (.ifCond .eq 7, 3) := by decide +kernel
theorem dX7_isShot_17 : decode cX7_isShot 17 = .ok (.iconst 1, 1) := by decide +kernel
theorem dX7_isShot_18 : decode cX7_isShot 18 = .ok (.goto 4, 3) := by decide +kernel
theorem dX7_isShot_21 : decode cX7_isShot 21 = .ok (.iconst 0, 1) := by decide +kernel
theorem dX7_isShot_22 : decode cX7_isShot 22 = .ok (.iconst 1, 1) := by decide +kernel
theorem dX7_isShot_23 : decode cX7_isShot 23 = .ok (.invokevirtual 59, 3) := by decide +kernel
theorem dX7_isShot_26 : decode cX7_isShot 26 = .ok (.ireturn, 1) := by decide +kernel
theorem dX7_inShot_0 : decode cX7_inShot 0 = .ok (.sipush 768, 3) := by decide +kernel
theorem dX7_inShot_3 : decode cX7_inShot 3 = .ok (.sipush 128, 3) := by decide +kernel
theorem dX7_inShot_6 : decode cX7_inShot 6 = .ok (.aload_n 0, 1) := by decide +kernel
theorem dX7_inShot_7 : decode cX7_inShot 7 = .ok (.iload_n 1, 1) := by decide +kernel
theorem dX7_inShot_8 : decode cX7_inShot 8 = .ok (.invokevirtual 83, 3) := by decide +kernel
theorem dX7_inShot_11 : decode cX7_inShot 11 = .ok (.imul, 1) := by decide +kernel
theorem dX7_inShot_12 : decode cX7_inShot 12 = .ok (.iadd, 1) := by decide +kernel
theorem dX7_inShot_13 : decode cX7_inShot 13 = .ok (.bipush 16, 2) := by decide +kernel
theorem dX7_inShot_15 : decode cX7_inShot 15 = .ok (.iload_n 2, 1) := by decide +kernel
theorem dX7_inShot_16 : decode cX7_inShot 16 = .ok (.imul, 1) := by decide +kernel
theorem dX7_inShot_17 : decode cX7_inShot 17 = .ok (.iadd, 1) := by decide +kernel
theorem dX7_inShot_18 : decode cX7_inShot 18 = .ok (.iload_n 3, 1) := by decide +kernel
theorem dX7_inShot_19 : decode cX7_inShot 19 = .ok (.iadd, 1) := by decide +kernel
theorem dX7_inShot_20 : decode cX7_inShot 20 = .ok (.ireturn, 1) := by decide +kernel
theorem dX7_readSnapshot_0 : decode cX7_readSnapshot 0 = .ok (.aload_n 0, 1) := by decide +kernel
theorem dX7_readSnapshot_1 : decode cX7_readSnapshot 1 = .ok (.iload_n 1, 1) := by decide +kernel
theorem dX7_readSnapshot_2 : decode cX7_readSnapshot 2 = .ok (.iload_n 2, 1) := by decide +kernel
theorem dX7_readSnapshot_3 : decode cX7_readSnapshot 3 = .ok (.iload_n 3, 1) := by decide +kernel
theorem dX7_readSnapshot_4 : decode cX7_readSnapshot 4 = .ok (.invokevirtual 86, 3) := by decide +kernel
theorem dX7_readSnapshot_7 : decode cX7_readSnapshot 7 = .ok (.ifCond .eq 17, 3) := by decide +kernel
theorem dX7_readSnapshot_10 : decode cX7_readSnapshot 10 = .ok (.aload_n 0, 1) := by decide +kernel
theorem dX7_readSnapshot_11 : decode cX7_readSnapshot 11 = .ok (.aload_n 0, 1) := by decide +kernel
theorem dX7_readSnapshot_12 : decode cX7_readSnapshot 12 = .ok (.iload_n 1, 1) := by decide +kernel
theorem dX7_readSnapshot_13 : decode cX7_readSnapshot 13 = .ok (.iload_n 2, 1) := by decide +kernel
theorem dX7_readSnapshot_14 : decode cX7_readSnapshot 14 = .ok (.iload_n 3, 1) := by decide +kernel
theorem dX7_readSnapshot_15 : decode cX7_readSnapshot 15 = .ok (.invokevirtual 89, 3) := by decide +kernel
theorem dX7_readSnapshot_18 : decode cX7_readSnapshot 18 = .ok (.invokevirtual 66, 3) := by decide +kernel
theorem dX7_readSnapshot_21 : decode cX7_readSnapshot 21 = .ok (.goto 4, 3) := by decide +kernel
theorem dX7_readSnapshot_24 : decode cX7_readSnapshot 24 = .ok (.iconst 0, 1) := by decide +kernel
theorem dX7_readSnapshot_25 : decode cX7_readSnapshot 25 = .ok (.ireturn, 1) := by decide +kernel
theorem dX7_blockInSnapshot_0 : decode cX7_blockInSnapshot 0 = .ok (.aload_n 0, 1) := by decide +kernel
theorem dX7_blockInSnapshot_1 : decode cX7_blockInSnapshot 1 = .ok (.iload_n 1, 1) := by decide +kernel
theorem dX7_blockInSnapshot_2 : decode cX7_blockInSnapshot 2 = .ok (.iload_n 2, 1) := by decide +kernel
theorem dX7_blockInSnapshot_3 : decode cX7_blockInSnapshot 3 = .ok (.iload_n 3, 1) := by decide +kernel
theorem dX7_blockInSnapshot_4 : decode cX7_blockInSnapshot 4 = .ok (.invokevirtual 86, 3) := by decide +kernel
theorem dX7_blockInSnapshot_7 : decode cX7_blockInSnapshot 7 = .ok (.ifCond .eq 20, 3) := by decide +kernel
theorem dX7_blockInSnapshot_10 : decode cX7_blockInSnapshot 10 = .ok (.aload_n 0, 1) := by decide +kernel
theorem dX7_blockInSnapshot_11 : decode cX7_blockInSnapshot 11 = .ok (.getfield 7, 3) := by decide +kernel
theorem dX7_blockInSnapshot_14 : decode cX7_blockInSnapshot 14 = .ok (.aload_n 0, 1) := by decide +kernel
theorem dX7_blockInSnapshot_15 : decode cX7_blockInSnapshot 15 = .ok (.iload_n 1, 1) := by decide +kernel
theorem dX7_blockInSnapshot_16 : decode cX7_blockInSnapshot 16 = .ok (.iload_n 2, 1) := by decide +kernel
theorem dX7_blockInSnapshot_17 : decode cX7_blockInSnapshot 17 = .ok (.iload_n 3, 1) := by decide +kernel
theorem dX7_blockInSnapshot_18 : decode cX7_blockInSnapshot 18 = .ok (.invokevirtual 89, 3) := by decide +kernel
theorem dX7_blockInSnapshot_21 : decode cX7_blockInSnapshot 21 = .ok (.iaload, 1) := by decide +kernel
theorem dX7_blockInSnapshot_22 : decode cX7_blockInSnapshot 22 = .ok (.iconst 1, 1) := by decide +kernel
theorem dX7_blockInSnapshot_23 : decode cX7_blockInSnapshot 23 = .ok (.isub, 1) := by decide +kernel
theorem dX7_blockInSnapshot_24 : decode cX7_blockInSnapshot 24 = .ok (.goto 4, 3) := by decide +kernel
theorem dX7_blockInSnapshot_27 : decode cX7_blockInSnapshot 27 = .ok (.iconst 0, 1) := by decide +kernel
theorem dX7_blockInSnapshot_28 : decode cX7_blockInSnapshot 28 = .ok (.ireturn, 1) := by decide +kernel
theorem dX7_transactionOf_0 : decode cX7_transactionOf 0 = .ok (.aload_n 0, 1) := by decide +kernel
theorem dX7_transactionOf_1 : decode cX7_transactionOf 1 = .ok (.iload_n 1, 1) := by decide +kernel
theorem dX7_transactionOf_2 : decode cX7_transactionOf 2 = .ok (.iconst 0, 1) := by decide +kernel
theorem dX7_transactionOf_3 : decode cX7_transactionOf 3 = .ok (.iconst 0, 1) := by decide +kernel
theorem dX7_transactionOf_4 : decode cX7_transactionOf 4 = .ok (.invokevirtual 86, 3) := by decide +kernel
theorem dX7_transactionOf_7 : decode cX7_transactionOf 7 = .ok (.ifCond .eq 20, 3) := by decide +kernel
theorem dX7_transactionOf_10 : decode cX7_transactionOf 10 = .ok (.aload_n 0, 1) := by decide +kernel
theorem dX7_transactionOf_11 : decode cX7_transactionOf 11 = .ok (.getfield 7, 3) := by decide +kernel
theorem dX7_transactionOf_14 : decode cX7_transactionOf 14 = .ok (.sipush 2406, 3) := by decide +kernel
theorem dX7_transactionOf_17 : decode cX7_transactionOf 17 = .ok (.aload_n 0, 1) := by decide +kernel
theorem dX7_transactionOf_18 : decode cX7_transactionOf 18 = .ok (.iload_n 1, 1) := by decide +kernel
theorem dX7_transactionOf_19 : decode cX7_transactionOf 19 = .ok (.invokevirtual 83, 3) := by decide +kernel
theorem dX7_transactionOf_22 : decode cX7_transactionOf 22 = .ok (.iadd, 1) := by decide +kernel
theorem dX7_transactionOf_23 : decode cX7_transactionOf 23 = .ok (.iaload, 1) := by decide +kernel
theorem dX7_transactionOf_24 : decode cX7_transactionOf 24 = .ok (.goto 4, 3) := by decide +kernel
theorem dX7_transactionOf_27 : decode cX7_transactionOf 27 = .ok (.iconst 0, 1) := by decide +kernel
theorem dX7_transactionOf_28 : decode cX7_transactionOf 28 = .ok (.ireturn, 1) := by decide +kernel
theorem dX7_datasetOf_0 : decode cX7_datasetOf 0 = .ok (.aload_n 0, 1) := by decide +kernel
theorem dX7_datasetOf_1 : decode cX7_datasetOf 1 = .ok (.iload_n 1, 1) := by decide +kernel
theorem dX7_datasetOf_2 : decode cX7_datasetOf 2 = .ok (.iconst 0, 1) := by decide +kernel
theorem dX7_datasetOf_3 : decode cX7_datasetOf 3 = .ok (.iconst 0, 1) := by decide +kernel
theorem dX7_datasetOf_4 : decode cX7_datasetOf 4 = .ok (.invokevirtual 86, 3) := by decide +kernel
theorem dX7_datasetOf_7 : decode cX7_datasetOf 7 = .ok (.ifCond .eq 20, 3) := by decide +kernel
theorem dX7_datasetOf_10 : decode cX7_datasetOf 10 = .ok (.aload_n 0, 1) := by decide +kernel
theorem dX7_datasetOf_11 : decode cX7_datasetOf 11 = .ok (.getfield 7, 3) := by decide +kernel
theorem dX7_datasetOf_14 : decode cX7_datasetOf 14 = .ok (.sipush 2418, 3) := by decide +kernel
theorem dX7_datasetOf_17 : decode cX7_datasetOf 17 = .ok (.aload_n 0, 1) := by decide +kernel
theorem dX7_datasetOf_18 : decode cX7_datasetOf 18 = .ok (.iload_n 1, 1) := by decide +kernel
theorem dX7_datasetOf_19 : decode cX7_datasetOf 19 = .ok (.invokevirtual 83, 3) := by decide +kernel
theorem dX7_datasetOf_22 : decode cX7_datasetOf 22 = .ok (.iadd, 1) := by decide +kernel
theorem dX7_datasetOf_23 : decode cX7_datasetOf 23 = .ok (.iaload, 1) := by decide +kernel
theorem dX7_datasetOf_24 : decode cX7_datasetOf 24 = .ok (.goto 4, 3) := by decide +kernel
theorem dX7_datasetOf_27 : decode cX7_datasetOf 27 = .ok (.iconst 0, 1) := by decide +kernel
theorem dX7_datasetOf_28 : decode cX7_datasetOf 28 = .ok (.ireturn, 1) := by decide +kernel
theorem dX7_snapshots_0 : decode cX7_snapshots 0 = .ok (.aload_n 0, 1) := by decide +kernel
theorem dX7_snapshots_1 : decode cX7_snapshots 1 = .ok (.aload_n 0, 1) := by decide +kernel
theorem dX7_snapshots_2 : decode cX7_snapshots 2 = .ok (.iload_n 1, 1) := by decide +kernel
theorem dX7_snapshots_3 : decode cX7_snapshots 3 = .ok (.invokevirtual 41, 3) := by decide +kernel
theorem dX7_snapshots_6 : decode cX7_snapshots 6 = .ok (.iconst 1, 1) := by decide +kernel
theorem dX7_snapshots_7 : decode cX7_snapshots 7 = .ok (.invokevirtual 59, 3) := by decide +kernel
theorem dX7_snapshots_10 : decode cX7_snapshots 10 = .ok (.ifCond .eq 16, 3) := by decide +kernel
theorem dX7_snapshots_13 : decode cX7_snapshots 13 = .ok (.aload_n 0, 1) := by decide +kernel
theorem dX7_snapshots_14 : decode cX7_snapshots 14 = .ok (.getfield 7, 3) := by decide +kernel
theorem dX7_snapshots_17 : decode cX7_snapshots 17 = .ok (.sipush 2388, 3) := by decide +kernel
theorem dX7_snapshots_20 : decode cX7_snapshots 20 = .ok (.iload_n 1, 1) := by decide +kernel
theorem dX7_snapshots_21 : decode cX7_snapshots 21 = .ok (.iadd, 1) := by decide +kernel
theorem dX7_snapshots_22 : decode cX7_snapshots 22 = .ok (.iaload, 1) := by decide +kernel
theorem dX7_snapshots_23 : decode cX7_snapshots 23 = .ok (.goto 4, 3) := by decide +kernel
theorem dX7_snapshots_26 : decode cX7_snapshots 26 = .ok (.iconst 0, 1) := by decide +kernel
theorem dX7_snapshots_27 : decode cX7_snapshots 27 = .ok (.ireturn, 1) := by decide +kernel
theorem dX7_snapshotAt_0 : decode cX7_snapshotAt 0 = .ok (.aload_n 0, 1) := by decide +kernel
theorem dX7_snapshotAt_1 : decode cX7_snapshotAt 1 = .ok (.aload_n 0, 1) := by decide +kernel
theorem dX7_snapshotAt_2 : decode cX7_snapshotAt 2 = .ok (.iload_n 1, 1) := by decide +kernel
theorem dX7_snapshotAt_3 : decode cX7_snapshotAt 3 = .ok (.invokevirtual 41, 3) := by decide +kernel
theorem dX7_snapshotAt_6 : decode cX7_snapshotAt 6 = .ok (.ifCond .eq 27, 3) := by decide +kernel
theorem dX7_snapshotAt_9 : decode cX7_snapshotAt 9 = .ok (.iload_n 2, 1) := by decide +kernel
theorem dX7_snapshotAt_10 : decode cX7_snapshotAt 10 = .ok (.iconst 0, 1) := by decide +kernel
theorem dX7_snapshotAt_11 : decode cX7_snapshotAt 11 = .ok (.aload_n 0, 1) := by decide +kernel
theorem dX7_snapshotAt_12 : decode cX7_snapshotAt 12 = .ok (.getfield 7, 3) := by decide +kernel
theorem dX7_snapshotAt_15 : decode cX7_snapshotAt 15 = .ok (.sipush 2388, 3) := by decide +kernel
theorem dX7_snapshotAt_18 : decode cX7_snapshotAt 18 = .ok (.iload_n 1, 1) := by decide +kernel
theorem dX7_snapshotAt_19 : decode cX7_snapshotAt 19 = .ok (.iadd, 1) := by decide +kernel
theorem dX7_snapshotAt_20 : decode cX7_snapshotAt 20 = .ok (.iaload, 1) := by decide +kernel
theorem dX7_snapshotAt_21 : decode cX7_snapshotAt 21 = .ok (.iconst 1, 1) := by decide +kernel
theorem dX7_snapshotAt_22 : decode cX7_snapshotAt 22 = .ok (.isub, 1) := by decide +kernel
theorem dX7_snapshotAt_23 : decode cX7_snapshotAt 23 = .ok (.invokestatic 26, 3) := by decide +kernel
theorem dX7_snapshotAt_26 : decode cX7_snapshotAt 26 = .ok (.ifCond .eq 7, 3) := by decide +kernel
theorem dX7_snapshotAt_29 : decode cX7_snapshotAt 29 = .ok (.iconst 1, 1) := by decide +kernel
theorem dX7_snapshotAt_30 : decode cX7_snapshotAt 30 = .ok (.goto 4, 3) := by decide +kernel
theorem dX7_snapshotAt_33 : decode cX7_snapshotAt 33 = .ok (.iconst 0, 1) := by decide +kernel
theorem dX7_snapshotAt_34 : decode cX7_snapshotAt 34 = .ok (.iconst 1, 1) := by decide +kernel
theorem dX7_snapshotAt_35 : decode cX7_snapshotAt 35 = .ok (.invokevirtual 59, 3) := by decide +kernel
theorem dX7_snapshotAt_38 : decode cX7_snapshotAt 38 = .ok (.istore_n 3, 1) := by decide +kernel
theorem dX7_snapshotAt_39 : decode cX7_snapshotAt 39 = .ok (.iload_n 3, 1) := by decide +kernel
theorem dX7_snapshotAt_40 : decode cX7_snapshotAt 40 = .ok (.ifCond .eq 32, 3) := by decide +kernel
theorem dX7_snapshotAt_43 : decode cX7_snapshotAt 43 = .ok (.aload_n 0, 1) := by decide +kernel
theorem dX7_snapshotAt_44 : decode cX7_snapshotAt 44 = .ok (.getfield 7, 3) := by decide +kernel
theorem dX7_snapshotAt_47 : decode cX7_snapshotAt 47 = .ok (.sipush 2394, 3) := by decide +kernel
theorem dX7_snapshotAt_50 : decode cX7_snapshotAt 50 = .ok (.aload_n 0, 1) := by decide +kernel
theorem dX7_snapshotAt_51 : decode cX7_snapshotAt 51 = .ok (.getfield 7, 3) := by decide +kernel
theorem dX7_snapshotAt_54 : decode cX7_snapshotAt 54 = .ok (.sipush 2316, 3) := by decide +kernel
theorem dX7_snapshotAt_57 : decode cX7_snapshotAt 57 = .ok (.bipush 12, 2) := by decide +kernel
theorem dX7_snapshotAt_59 : decode cX7_snapshotAt 59 = .ok (.iload_n 1, 1) := by decide +kernel
theorem dX7_snapshotAt_60 : decode cX7_snapshotAt 60 = .ok (.imul, 1) := by decide +kernel
theorem dX7_snapshotAt_61 : decode cX7_snapshotAt 61 = .ok (.iadd, 1) := by decide +kernel
theorem dX7_snapshotAt_62 : decode cX7_snapshotAt 62 = .ok (.iload_n 2, 1) := by decide +kernel
theorem dX7_snapshotAt_63 : decode cX7_snapshotAt 63 = .ok (.iadd, 1) := by decide +kernel
theorem dX7_snapshotAt_64 : decode cX7_snapshotAt 64 = .ok (.iaload, 1) := by decide +kernel
theorem dX7_snapshotAt_65 : decode cX7_snapshotAt 65 = .ok (.iadd, 1) := by decide +kernel
theorem dX7_snapshotAt_66 : decode cX7_snapshotAt 66 = .ok (.iaload, 1) := by decide +kernel
theorem dX7_snapshotAt_67 : decode cX7_snapshotAt 67 = .ok (.iconst 1, 1) := by decide +kernel
theorem dX7_snapshotAt_68 : decode cX7_snapshotAt 68 = .ok (.isub, 1) := by decide +kernel
theorem dX7_snapshotAt_69 : decode cX7_snapshotAt 69 = .ok (.goto 4, 3) := by decide +kernel
theorem dX7_snapshotAt_72 : decode cX7_snapshotAt 72 = .ok (.iconst 0, 1) := by decide +kernel
theorem dX7_snapshotAt_73 : decode cX7_snapshotAt 73 = .ok (.ireturn, 1) := by decide +kernel
theorem dX7_isOrigin_0 : decode cX7_isOrigin 0 = .ok (.iconst 0, 1) := by decide +kernel
theorem dX7_isOrigin_1 : decode cX7_isOrigin 1 = .ok (.istore_n 2, 1) := by decide +kernel
theorem dX7_isOrigin_2 : decode cX7_isOrigin 2 = .ok (.iconst 0, 1) := by decide +kernel
theorem dX7_isOrigin_3 : decode cX7_isOrigin 3 = .ok (.istore_n 3, 1) := by decide +kernel
theorem dX7_isOrigin_4 : decode cX7_isOrigin 4 = .ok (.iload_n 3, 1) := by decide +kernel
theorem dX7_isOrigin_5 : decode cX7_isOrigin 5 = .ok (.bipush 6, 2) := by decide +kernel
theorem dX7_isOrigin_7 : decode cX7_isOrigin 7 = .ok (.if_icmp .ge 49, 3) := by decide +kernel
theorem dX7_isOrigin_10 : decode cX7_isOrigin 10 = .ok (.iload_n 2, 1) := by decide +kernel
theorem dX7_isOrigin_11 : decode cX7_isOrigin 11 = .ok (.ifCond .ne 33, 3) := by decide +kernel
theorem dX7_isOrigin_14 : decode cX7_isOrigin 14 = .ok (.aload_n 0, 1) := by decide +kernel
theorem dX7_isOrigin_15 : decode cX7_isOrigin 15 = .ok (.getfield 7, 3) := by decide +kernel
theorem dX7_isOrigin_18 : decode cX7_isOrigin 18 = .ok (.sipush 2304, 3) := by decide +kernel
theorem dX7_isOrigin_21 : decode cX7_isOrigin 21 = .ok (.iload_n 3, 1) := by decide +kernel
theorem dX7_isOrigin_22 : decode cX7_isOrigin 22 = .ok (.iadd, 1) := by decide +kernel
theorem dX7_isOrigin_23 : decode cX7_isOrigin 23 = .ok (.iaload, 1) := by decide +kernel
theorem dX7_isOrigin_24 : decode cX7_isOrigin 24 = .ok (.iconst 1, 1) := by decide +kernel
theorem dX7_isOrigin_25 : decode cX7_isOrigin 25 = .ok (.if_icmp .ne 23, 3) := by decide +kernel
theorem dX7_isOrigin_28 : decode cX7_isOrigin 28 = .ok (.aload_n 0, 1) := by decide +kernel
theorem dX7_isOrigin_29 : decode cX7_isOrigin 29 = .ok (.getfield 7, 3) := by decide +kernel
theorem dX7_isOrigin_32 : decode cX7_isOrigin 32 = .ok (.sipush 2310, 3) := by decide +kernel
theorem dX7_isOrigin_35 : decode cX7_isOrigin 35 = .ok (.iload_n 3, 1) := by decide +kernel
theorem dX7_isOrigin_36 : decode cX7_isOrigin 36 = .ok (.iadd, 1) := by decide +kernel
theorem dX7_isOrigin_37 : decode cX7_isOrigin 37 = .ok (.iaload, 1) := by decide +kernel
theorem dX7_isOrigin_38 : decode cX7_isOrigin 38 = .ok (.iload_n 1, 1) := by decide +kernel
theorem dX7_isOrigin_39 : decode cX7_isOrigin 39 = .ok (.iconst 1, 1) := by decide +kernel
theorem dX7_isOrigin_40 : decode cX7_isOrigin 40 = .ok (.iadd, 1) := by decide +kernel
theorem dX7_isOrigin_41 : decode cX7_isOrigin 41 = .ok (.if_icmp .ne 7, 3) := by decide +kernel
theorem dX7_isOrigin_44 : decode cX7_isOrigin 44 = .ok (.iconst 1, 1) := by decide +kernel
theorem dX7_isOrigin_45 : decode cX7_isOrigin 45 = .ok (.goto 4, 3) := by decide +kernel
theorem dX7_isOrigin_48 : decode cX7_isOrigin 48 = .ok (.iconst 0, 1) := by decide +kernel
theorem dX7_isOrigin_49 : decode cX7_isOrigin 49 = .ok (.istore_n 2, 1) := by decide +kernel
theorem dX7_isOrigin_50 : decode cX7_isOrigin 50 = .ok (.iinc 3 1, 3) := by decide +kernel
theorem dX7_isOrigin_53 : decode cX7_isOrigin 53 = .ok (.goto (-49), 3) := by decide +kernel
theorem dX7_isOrigin_56 : decode cX7_isOrigin 56 = .ok (.iload_n 2, 1) := by decide +kernel
theorem dX7_isOrigin_57 : decode cX7_isOrigin 57 = .ok (.ireturn, 1) := by decide +kernel
theorem dX7_placeOf_0 : decode cX7_placeOf 0 = .ok (.sipush 2316, 3) := by decide +kernel
theorem dX7_placeOf_3 : decode cX7_placeOf 3 = .ok (.bipush 12, 2) := by decide +kernel
theorem dX7_placeOf_5 : decode cX7_placeOf 5 = .ok (.aload_n 0, 1) := by decide +kernel
theorem dX7_placeOf_6 : decode cX7_placeOf 6 = .ok (.getfield 7, 3) := by decide +kernel
theorem dX7_placeOf_9 : decode cX7_placeOf 9 = .ok (.sipush 2418, 3) := by decide +kernel
theorem dX7_placeOf_12 : decode cX7_placeOf 12 = .ok (.iload_n 1, 1) := by decide +kernel
theorem dX7_placeOf_13 : decode cX7_placeOf 13 = .ok (.iadd, 1) := by decide +kernel
theorem dX7_placeOf_14 : decode cX7_placeOf 14 = .ok (.iaload, 1) := by decide +kernel
theorem dX7_placeOf_15 : decode cX7_placeOf 15 = .ok (.imul, 1) := by decide +kernel
theorem dX7_placeOf_16 : decode cX7_placeOf 16 = .ok (.iadd, 1) := by decide +kernel
theorem dX7_placeOf_17 : decode cX7_placeOf 17 = .ok (.istore_n 2, 1) := by decide +kernel
theorem dX7_placeOf_18 : decode cX7_placeOf 18 = .ok (.iconst 0, 1) := by decide +kernel
theorem dX7_placeOf_19 : decode cX7_placeOf 19 = .ok (.istore_n 3, 1) := by decide +kernel
theorem dX7_placeOf_20 : decode cX7_placeOf 20 = .ok (.aload_n 0, 1) := by decide +kernel
theorem dX7_placeOf_21 : decode cX7_placeOf 21 = .ok (.getfield 7, 3) := by decide +kernel
theorem dX7_placeOf_24 : decode cX7_placeOf 24 = .ok (.iload_n 2, 1) := by decide +kernel
theorem dX7_placeOf_25 : decode cX7_placeOf 25 = .ok (.iload_n 3, 1) := by decide +kernel
theorem dX7_placeOf_26 : decode cX7_placeOf 26 = .ok (.iadd, 1) := by decide +kernel
theorem dX7_placeOf_27 : decode cX7_placeOf 27 = .ok (.iaload, 1) := by decide +kernel
theorem dX7_placeOf_28 : decode cX7_placeOf 28 = .ok (.iload_n 1, 1) := by decide +kernel
theorem dX7_placeOf_29 : decode cX7_placeOf 29 = .ok (.if_icmp .eq 9, 3) := by decide +kernel
theorem dX7_placeOf_32 : decode cX7_placeOf 32 = .ok (.iinc 3 1, 3) := by decide +kernel
theorem dX7_placeOf_35 : decode cX7_placeOf 35 = .ok (.goto (-15), 3) := by decide +kernel
theorem dX7_placeOf_38 : decode cX7_placeOf 38 = .ok (.iload_n 3, 1) := by decide +kernel
theorem dX7_placeOf_39 : decode cX7_placeOf 39 = .ok (.ireturn, 1) := by decide +kernel
theorem dX7_drops_0 : decode cX7_drops 0 = .ok (.aload_n 0, 1) := by decide +kernel
theorem dX7_drops_1 : decode cX7_drops 1 = .ok (.getfield 7, 3) := by decide +kernel
theorem dX7_drops_4 : decode cX7_drops 4 = .ok (.sipush 2418, 3) := by decide +kernel
theorem dX7_drops_7 : decode cX7_drops 7 = .ok (.iload_n 1, 1) := by decide +kernel
theorem dX7_drops_8 : decode cX7_drops 8 = .ok (.iadd, 1) := by decide +kernel
theorem dX7_drops_9 : decode cX7_drops 9 = .ok (.iaload, 1) := by decide +kernel
theorem dX7_drops_10 : decode cX7_drops 10 = .ok (.istore_n 2, 1) := by decide +kernel
theorem dX7_drops_11 : decode cX7_drops 11 = .ok (.aload_n 0, 1) := by decide +kernel
theorem dX7_drops_12 : decode cX7_drops 12 = .ok (.iload_n 1, 1) := by decide +kernel
theorem dX7_drops_13 : decode cX7_drops 13 = .ok (.invokevirtual 92, 3) := by decide +kernel
theorem dX7_drops_16 : decode cX7_drops 16 = .ok (.istore_n 3, 1) := by decide +kernel
theorem dX7_drops_17 : decode cX7_drops 17 = .ok (.aload_n 0, 1) := by decide +kernel
theorem dX7_drops_18 : decode cX7_drops 18 = .ok (.getfield 7, 3) := by decide +kernel
theorem dX7_drops_21 : decode cX7_drops 21 = .ok (.sipush 2388, 3) := by decide +kernel
theorem dX7_drops_24 : decode cX7_drops 24 = .ok (.iload_n 2, 1) := by decide +kernel
theorem dX7_drops_25 : decode cX7_drops 25 = .ok (.iadd, 1) := by decide +kernel
theorem dX7_drops_26 : decode cX7_drops 26 = .ok (.dup2, 1) := by decide +kernel
theorem dX7_drops_27 : decode cX7_drops 27 = .ok (.iaload, 1) := by decide +kernel
theorem dX7_drops_28 : decode cX7_drops 28 = .ok (.iconst 1, 1) := by decide +kernel
theorem dX7_drops_29 : decode cX7_drops 29 = .ok (.isub, 1) := by decide +kernel
theorem dX7_drops_30 : decode cX7_drops 30 = .ok (.iastore, 1) := by decide +kernel
theorem dX7_drops_31 : decode cX7_drops 31 = .ok (.iload_n 3, 1) := by decide +kernel
theorem dX7_drops_32 : decode cX7_drops 32 = .ok (.istore 4, 2) := by decide +kernel
theorem dX7_drops_34 : decode cX7_drops 34 = .ok (.iload 4, 2) := by decide +kernel
theorem dX7_drops_36 : decode cX7_drops 36 = .ok (.aload_n 0, 1) := by decide +kernel
theorem dX7_drops_37 : decode cX7_drops 37 = .ok (.getfield 7, 3) := by decide +kernel
theorem dX7_drops_40 : decode cX7_drops 40 = .ok (.sipush 2388, 3) := by decide +kernel
theorem dX7_drops_43 : decode cX7_drops 43 = .ok (.iload_n 2, 1) := by decide +kernel
theorem dX7_drops_44 : decode cX7_drops 44 = .ok (.iadd, 1) := by decide +kernel
theorem dX7_drops_45 : decode cX7_drops 45 = .ok (.iaload, 1) := by decide +kernel
theorem dX7_drops_46 : decode cX7_drops 46 = .ok (.if_icmp .ge 43, 3) := by decide +kernel
theorem dX7_drops_49 : decode cX7_drops 49 = .ok (.aload_n 0, 1) := by decide +kernel
theorem dX7_drops_50 : decode cX7_drops 50 = .ok (.getfield 7, 3) := by decide +kernel
theorem dX7_drops_53 : decode cX7_drops 53 = .ok (.sipush 2316, 3) := by decide +kernel
theorem dX7_drops_56 : decode cX7_drops 56 = .ok (.bipush 12, 2) := by decide +kernel
theorem dX7_drops_58 : decode cX7_drops 58 = .ok (.iload_n 2, 1) := by decide +kernel
theorem dX7_drops_59 : decode cX7_drops 59 = .ok (.imul, 1) := by decide +kernel
theorem dX7_drops_60 : decode cX7_drops 60 = .ok (.iadd, 1) := by decide +kernel
theorem dX7_drops_61 : decode cX7_drops 61 = .ok (.iload 4, 2) := by decide +kernel
theorem dX7_drops_63 : decode cX7_drops 63 = .ok (.iadd, 1) := by decide +kernel
theorem dX7_drops_64 : decode cX7_drops 64 = .ok (.aload_n 0, 1) := by decide +kernel
theorem dX7_drops_65 : decode cX7_drops 65 = .ok (.getfield 7, 3) := by decide +kernel
theorem dX7_drops_68 : decode cX7_drops 68 = .ok (.sipush 2316, 3) := by decide +kernel
theorem dX7_drops_71 : decode cX7_drops 71 = .ok (.bipush 12, 2) := by decide +kernel
theorem dX7_drops_73 : decode cX7_drops 73 = .ok (.iload_n 2, 1) := by decide +kernel
theorem dX7_drops_74 : decode cX7_drops 74 = .ok (.imul, 1) := by decide +kernel
theorem dX7_drops_75 : decode cX7_drops 75 = .ok (.iadd, 1) := by decide +kernel
theorem dX7_drops_76 : decode cX7_drops 76 = .ok (.iload 4, 2) := by decide +kernel
theorem dX7_drops_78 : decode cX7_drops 78 = .ok (.iadd, 1) := by decide +kernel
theorem dX7_drops_79 : decode cX7_drops 79 = .ok (.iconst 1, 1) := by decide +kernel
theorem dX7_drops_80 : decode cX7_drops 80 = .ok (.iadd, 1) := by decide +kernel
theorem dX7_drops_81 : decode cX7_drops 81 = .ok (.iaload, 1) := by decide +kernel
theorem dX7_drops_82 : decode cX7_drops 82 = .ok (.iastore, 1) := by decide +kernel
theorem dX7_drops_83 : decode cX7_drops 83 = .ok (.iinc 4 1, 3) := by decide +kernel
theorem dX7_drops_86 : decode cX7_drops 86 = .ok (.goto (-52), 3) := by decide +kernel
theorem dX7_drops_89 : decode cX7_drops 89 = .ok (.aload_n 0, 1) := by decide +kernel
theorem dX7_drops_90 : decode cX7_drops 90 = .ok (.getfield 7, 3) := by decide +kernel
theorem dX7_drops_93 : decode cX7_drops 93 = .ok (.sipush 2394, 3) := by decide +kernel
theorem dX7_drops_96 : decode cX7_drops 96 = .ok (.iload_n 1, 1) := by decide +kernel
theorem dX7_drops_97 : decode cX7_drops 97 = .ok (.iadd, 1) := by decide +kernel
theorem dX7_drops_98 : decode cX7_drops 98 = .ok (.iconst 0, 1) := by decide +kernel
theorem dX7_drops_99 : decode cX7_drops 99 = .ok (.iastore, 1) := by decide +kernel
theorem dX7_drops_100 : decode cX7_drops 100 = .ok (.iconst 0, 1) := by decide +kernel
theorem dX7_drops_101 : decode cX7_drops 101 = .ok (.istore 4, 2) := by decide +kernel
theorem dX7_drops_103 : decode cX7_drops 103 = .ok (.iload 4, 2) := by decide +kernel
theorem dX7_drops_105 : decode cX7_drops 105 = .ok (.sipush 128, 3) := by decide +kernel
theorem dX7_drops_108 : decode cX7_drops 108 = .ok (.if_icmp .ge 27, 3) := by decide +kernel
theorem dX7_drops_111 : decode cX7_drops 111 = .ok (.aload_n 0, 1) := by decide +kernel
theorem dX7_drops_112 : decode cX7_drops 112 = .ok (.getfield 7, 3) := by decide +kernel
theorem dX7_drops_115 : decode cX7_drops 115 = .ok (.sipush 768, 3) := by decide +kernel
theorem dX7_drops_118 : decode cX7_drops 118 = .ok (.sipush 128, 3) := by decide +kernel
theorem dX7_drops_121 : decode cX7_drops 121 = .ok (.iload_n 1, 1) := by decide +kernel
theorem dX7_drops_122 : decode cX7_drops 122 = .ok (.imul, 1) := by decide +kernel
theorem dX7_drops_123 : decode cX7_drops 123 = .ok (.iadd, 1) := by decide +kernel
theorem dX7_drops_124 : decode cX7_drops 124 = .ok (.iload 4, 2) := by decide +kernel
theorem dX7_drops_126 : decode cX7_drops 126 = .ok (.iadd, 1) := by decide +kernel
theorem dX7_drops_127 : decode cX7_drops 127 = .ok (.iconst 0, 1) := by decide +kernel
theorem dX7_drops_128 : decode cX7_drops 128 = .ok (.iastore, 1) := by decide +kernel
theorem dX7_drops_129 : decode cX7_drops 129 = .ok (.iinc 4 1, 3) := by decide +kernel
theorem dX7_drops_132 : decode cX7_drops 132 = .ok (.goto (-29), 3) := by decide +kernel
theorem dX7_drops_135 : decode cX7_drops 135 = .ok (.return_, 1) := by decide +kernel
theorem dX7_destroySnapshot_0 : decode cX7_destroySnapshot 0 = .ok (.aload_n 0, 1) := by decide +kernel
theorem dX7_destroySnapshot_1 : decode cX7_destroySnapshot 1 = .ok (.iload_n 1, 1) := by decide +kernel
theorem dX7_destroySnapshot_2 : decode cX7_destroySnapshot 2 = .ok (.invokevirtual 83, 3) := by decide +kernel
theorem dX7_destroySnapshot_5 : decode cX7_destroySnapshot 5 = .ok (.istore_n 2, 1) := by decide +kernel
theorem dX7_destroySnapshot_6 : decode cX7_destroySnapshot 6 = .ok (.aload_n 0, 1) := by decide +kernel
theorem dX7_destroySnapshot_7 : decode cX7_destroySnapshot 7 = .ok (.iload_n 2, 1) := by decide +kernel
theorem dX7_destroySnapshot_8 : decode cX7_destroySnapshot 8 = .ok (.ifCond .lt 7, 3) := by decide +kernel
theorem dX7_destroySnapshot_11 : decode cX7_destroySnapshot 11 = .ok (.iconst 1, 1) := by decide +kernel
theorem dX7_destroySnapshot_12 : decode cX7_destroySnapshot 12 = .ok (.goto 4, 3) := by decide +kernel
theorem dX7_destroySnapshot_15 : decode cX7_destroySnapshot 15 = .ok (.iconst 0, 1) := by decide +kernel
theorem dX7_destroySnapshot_16 : decode cX7_destroySnapshot 16 = .ok (.iload_n 2, 1) := by decide +kernel
theorem dX7_destroySnapshot_17 : decode cX7_destroySnapshot 17 = .ok (.ifCond .lt 15, 3) := by decide +kernel
theorem dX7_destroySnapshot_20 : decode cX7_destroySnapshot 20 = .ok (.aload_n 0, 1) := by decide +kernel
theorem dX7_destroySnapshot_21 : decode cX7_destroySnapshot 21 = .ok (.iload_n 2, 1) := by decide +kernel
theorem dX7_destroySnapshot_22 : decode cX7_destroySnapshot 22 = .ok (.invokevirtual 95, 3) := by decide +kernel
theorem dX7_destroySnapshot_25 : decode cX7_destroySnapshot 25 = .ok (.ifCond .ne 7, 3) := by decide +kernel
theorem dX7_destroySnapshot_28 : decode cX7_destroySnapshot 28 = .ok (.iconst 1, 1) := by decide +kernel
theorem dX7_destroySnapshot_29 : decode cX7_destroySnapshot 29 = .ok (.goto 4, 3) := by decide +kernel
theorem dX7_destroySnapshot_32 : decode cX7_destroySnapshot 32 = .ok (.iconst 0, 1) := by decide +kernel
theorem dX7_destroySnapshot_33 : decode cX7_destroySnapshot 33 = .ok (.invokevirtual 59, 3) := by decide +kernel
theorem dX7_destroySnapshot_36 : decode cX7_destroySnapshot 36 = .ok (.ifCond .ne 5, 3) := by decide +kernel
theorem dX7_destroySnapshot_39 : decode cX7_destroySnapshot 39 = .ok (.iconst 0, 1) := by decide +kernel
theorem dX7_destroySnapshot_40 : decode cX7_destroySnapshot 40 = .ok (.ireturn, 1) := by decide +kernel
theorem dX7_destroySnapshot_41 : decode cX7_destroySnapshot 41 = .ok (.aload_n 0, 1) := by decide +kernel
theorem dX7_destroySnapshot_42 : decode cX7_destroySnapshot 42 = .ok (.iload_n 2, 1) := by decide +kernel
theorem dX7_destroySnapshot_43 : decode cX7_destroySnapshot 43 = .ok (.invokevirtual 98, 3) := by decide +kernel
theorem dX7_destroySnapshot_46 : decode cX7_destroySnapshot 46 = .ok (.aload_n 0, 1) := by decide +kernel
theorem dX7_destroySnapshot_47 : decode cX7_destroySnapshot 47 = .ok (.invokevirtual 56, 3) := by decide +kernel
theorem dX7_destroySnapshot_50 : decode cX7_destroySnapshot 50 = .ok (.ireturn, 1) := by decide +kernel
theorem dX7_rollback_0 : decode cX7_rollback 0 = .ok (.aload_n 0, 1) := by decide +kernel
theorem dX7_rollback_1 : decode cX7_rollback 1 = .ok (.iload_n 2, 1) := by decide +kernel
theorem dX7_rollback_2 : decode cX7_rollback 2 = .ok (.invokevirtual 83, 3) := by decide +kernel
theorem dX7_rollback_5 : decode cX7_rollback 5 = .ok (.istore_n 3, 1) := by decide +kernel
theorem dX7_rollback_6 : decode cX7_rollback 6 = .ok (.aload_n 0, 1) := by decide +kernel
theorem dX7_rollback_7 : decode cX7_rollback 7 = .ok (.aload_n 0, 1) := by decide +kernel
theorem dX7_rollback_8 : decode cX7_rollback 8 = .ok (.iload_n 1, 1) := by decide +kernel
theorem dX7_rollback_9 : decode cX7_rollback 9 = .ok (.invokevirtual 41, 3) := by decide +kernel
theorem dX7_rollback_12 : decode cX7_rollback 12 = .ok (.ifCond .eq 11, 3) := by decide +kernel
theorem dX7_rollback_15 : decode cX7_rollback 15 = .ok (.iload_n 3, 1) := by decide +kernel
theorem dX7_rollback_16 : decode cX7_rollback 16 = .ok (.ifCond .lt 7, 3) := by decide +kernel
theorem dX7_rollback_19 : decode cX7_rollback 19 = .ok (.iconst 1, 1) := by decide +kernel
theorem dX7_rollback_20 : decode cX7_rollback 20 = .ok (.goto 4, 3) := by decide +kernel
theorem dX7_rollback_23 : decode cX7_rollback 23 = .ok (.iconst 0, 1) := by decide +kernel
theorem dX7_rollback_24 : decode cX7_rollback 24 = .ok (.iload_n 3, 1) := by decide +kernel
theorem dX7_rollback_25 : decode cX7_rollback 25 = .ok (.ifCond .lt 21, 3) := by decide +kernel
theorem dX7_rollback_28 : decode cX7_rollback 28 = .ok (.aload_n 0, 1) := by decide +kernel
theorem dX7_rollback_29 : decode cX7_rollback 29 = .ok (.getfield 7, 3) := by decide +kernel
theorem dX7_rollback_32 : decode cX7_rollback 32 = .ok (.sipush 2418, 3) := by decide +kernel
theorem dX7_rollback_35 : decode cX7_rollback 35 = .ok (.iload_n 3, 1) := by decide +kernel
theorem dX7_rollback_36 : decode cX7_rollback 36 = .ok (.iadd, 1) := by decide +kernel
theorem dX7_rollback_37 : decode cX7_rollback 37 = .ok (.iaload, 1) := by decide +kernel
theorem dX7_rollback_38 : decode cX7_rollback 38 = .ok (.iload_n 1, 1) := by decide +kernel
theorem dX7_rollback_39 : decode cX7_rollback 39 = .ok (.if_icmp .ne 7, 3) := by decide +kernel
theorem dX7_rollback_42 : decode cX7_rollback 42 = .ok (.iconst 1, 1) := by decide +kernel
theorem dX7_rollback_43 : decode cX7_rollback 43 = .ok (.goto 4, 3) := by decide +kernel
theorem dX7_rollback_46 : decode cX7_rollback 46 = .ok (.iconst 0, 1) := by decide +kernel
theorem dX7_rollback_47 : decode cX7_rollback 47 = .ok (.invokevirtual 59, 3) := by decide +kernel
theorem dX7_rollback_50 : decode cX7_rollback 50 = .ok (.ifCond .ne 5, 3) := by decide +kernel
theorem dX7_rollback_53 : decode cX7_rollback 53 = .ok (.iconst 0, 1) := by decide +kernel
theorem dX7_rollback_54 : decode cX7_rollback 54 = .ok (.ireturn, 1) := by decide +kernel
theorem dX7_rollback_55 : decode cX7_rollback 55 = .ok (.aload_n 0, 1) := by decide +kernel
theorem dX7_rollback_56 : decode cX7_rollback 56 = .ok (.iload_n 3, 1) := by decide +kernel
theorem dX7_rollback_57 : decode cX7_rollback 57 = .ok (.invokevirtual 92, 3) := by decide +kernel
theorem dX7_rollback_60 : decode cX7_rollback 60 = .ok (.istore 4, 2) := by decide +kernel
theorem dX7_rollback_62 : decode cX7_rollback 62 = .ok (.aload_n 0, 1) := by decide +kernel
theorem dX7_rollback_63 : decode cX7_rollback 63 = .ok (.getfield 7, 3) := by decide +kernel
theorem dX7_rollback_66 : decode cX7_rollback 66 = .ok (.sipush 2388, 3) := by decide +kernel
theorem dX7_rollback_69 : decode cX7_rollback 69 = .ok (.iload_n 1, 1) := by decide +kernel
theorem dX7_rollback_70 : decode cX7_rollback 70 = .ok (.iadd, 1) := by decide +kernel
theorem dX7_rollback_71 : decode cX7_rollback 71 = .ok (.iaload, 1) := by decide +kernel
theorem dX7_rollback_72 : decode cX7_rollback 72 = .ok (.iconst 1, 1) := by decide +kernel
theorem dX7_rollback_73 : decode cX7_rollback 73 = .ok (.isub, 1) := by decide +kernel
theorem dX7_rollback_74 : decode cX7_rollback 74 = .ok (.iload 4, 2) := by decide +kernel
theorem dX7_rollback_76 : decode cX7_rollback 76 = .ok (.isub, 1) := by decide +kernel
theorem dX7_rollback_77 : decode cX7_rollback 77 = .ok (.istore 5, 2) := by decide +kernel
theorem dX7_rollback_79 : decode cX7_rollback 79 = .ok (.iconst 1, 1) := by decide +kernel
theorem dX7_rollback_80 : decode cX7_rollback 80 = .ok (.istore 6, 2) := by decide +kernel
theorem dX7_rollback_82 : decode cX7_rollback 82 = .ok (.iload 6, 2) := by decide +kernel
theorem dX7_rollback_84 : decode cX7_rollback 84 = .ok (.iload 5, 2) := by decide +kernel
theorem dX7_rollback_86 : decode cX7_rollback 86 = .ok (.if_icmp .gt 47, 3) := by decide +kernel
theorem dX7_rollback_89 : decode cX7_rollback 89 = .ok (.aload_n 0, 1) := by decide +kernel
theorem dX7_rollback_90 : decode cX7_rollback 90 = .ok (.aload_n 0, 1) := by decide +kernel
theorem dX7_rollback_91 : decode cX7_rollback 91 = .ok (.aload_n 0, 1) := by decide +kernel
theorem dX7_rollback_92 : decode cX7_rollback 92 = .ok (.getfield 7, 3) := by decide +kernel
theorem dX7_rollback_95 : decode cX7_rollback 95 = .ok (.sipush 2316, 3) := by decide +kernel
theorem dX7_rollback_98 : decode cX7_rollback 98 = .ok (.bipush 12, 2) := by decide +kernel
theorem dX7_rollback_100 : decode cX7_rollback 100 = .ok (.iload_n 1, 1) := by decide +kernel
theorem dX7_rollback_101 : decode cX7_rollback 101 = .ok (.imul, 1) := by decide +kernel
theorem dX7_rollback_102 : decode cX7_rollback 102 = .ok (.iadd, 1) := by decide +kernel
theorem dX7_rollback_103 : decode cX7_rollback 103 = .ok (.iload 4, 2) := by decide +kernel
theorem dX7_rollback_105 : decode cX7_rollback 105 = .ok (.iadd, 1) := by decide +kernel
theorem dX7_rollback_106 : decode cX7_rollback 106 = .ok (.iload 6, 2) := by decide +kernel
theorem dX7_rollback_108 : decode cX7_rollback 108 = .ok (.iadd, 1) := by decide +kernel
theorem dX7_rollback_109 : decode cX7_rollback 109 = .ok (.iaload, 1) := by decide +kernel
theorem dX7_rollback_110 : decode cX7_rollback 110 = .ok (.invokevirtual 95, 3) := by decide +kernel
theorem dX7_rollback_113 : decode cX7_rollback 113 = .ok (.ifCond .eq 7, 3) := by decide +kernel
theorem dX7_rollback_116 : decode cX7_rollback 116 = .ok (.iconst 3, 1) := by decide +kernel
theorem dX7_rollback_117 : decode cX7_rollback 117 = .ok (.goto 7, 3) := by decide +kernel
theorem dX7_rollback_120 : decode cX7_rollback 120 = .ok (.aload_n 0, 1) := by decide +kernel
theorem dX7_rollback_121 : decode cX7_rollback 121 = .ok (.getfield 22, 3) := by decide +kernel
theorem dX7_rollback_124 : decode cX7_rollback 124 = .ok (.putfield 22, 3) := by decide +kernel
theorem dX7_rollback_127 : decode cX7_rollback 127 = .ok (.iinc 6 1, 3) := by decide +kernel
theorem dX7_rollback_130 : decode cX7_rollback 130 = .ok (.goto (-48), 3) := by decide +kernel
theorem dX7_rollback_133 : decode cX7_rollback 133 = .ok (.aload_n 0, 1) := by decide +kernel
theorem dX7_rollback_134 : decode cX7_rollback 134 = .ok (.getfield 22, 3) := by decide +kernel
theorem dX7_rollback_137 : decode cX7_rollback 137 = .ok (.ifCond .le 5, 3) := by decide +kernel
theorem dX7_rollback_140 : decode cX7_rollback 140 = .ok (.iconst 0, 1) := by decide +kernel
theorem dX7_rollback_141 : decode cX7_rollback 141 = .ok (.ireturn, 1) := by decide +kernel
theorem dX7_rollback_142 : decode cX7_rollback 142 = .ok (.iconst 0, 1) := by decide +kernel
theorem dX7_rollback_143 : decode cX7_rollback 143 = .ok (.istore 6, 2) := by decide +kernel
theorem dX7_rollback_145 : decode cX7_rollback 145 = .ok (.iload 6, 2) := by decide +kernel
theorem dX7_rollback_147 : decode cX7_rollback 147 = .ok (.iload 5, 2) := by decide +kernel
theorem dX7_rollback_149 : decode cX7_rollback 149 = .ok (.if_icmp .ge 31, 3) := by decide +kernel
theorem dX7_rollback_152 : decode cX7_rollback 152 = .ok (.aload_n 0, 1) := by decide +kernel
theorem dX7_rollback_153 : decode cX7_rollback 153 = .ok (.aload_n 0, 1) := by decide +kernel
theorem dX7_rollback_154 : decode cX7_rollback 154 = .ok (.getfield 7, 3) := by decide +kernel
theorem dX7_rollback_157 : decode cX7_rollback 157 = .ok (.sipush 2316, 3) := by decide +kernel
theorem dX7_rollback_160 : decode cX7_rollback 160 = .ok (.bipush 12, 2) := by decide +kernel
theorem dX7_rollback_162 : decode cX7_rollback 162 = .ok (.iload_n 1, 1) := by decide +kernel
theorem dX7_rollback_163 : decode cX7_rollback 163 = .ok (.imul, 1) := by decide +kernel
theorem dX7_rollback_164 : decode cX7_rollback 164 = .ok (.iadd, 1) := by decide +kernel
theorem dX7_rollback_165 : decode cX7_rollback 165 = .ok (.iload 4, 2) := by decide +kernel
theorem dX7_rollback_167 : decode cX7_rollback 167 = .ok (.iadd, 1) := by decide +kernel
theorem dX7_rollback_168 : decode cX7_rollback 168 = .ok (.iconst 1, 1) := by decide +kernel
theorem dX7_rollback_169 : decode cX7_rollback 169 = .ok (.iadd, 1) := by decide +kernel
theorem dX7_rollback_170 : decode cX7_rollback 170 = .ok (.iaload, 1) := by decide +kernel
theorem dX7_rollback_171 : decode cX7_rollback 171 = .ok (.invokevirtual 98, 3) := by decide +kernel
theorem dX7_rollback_174 : decode cX7_rollback 174 = .ok (.iinc 6 1, 3) := by decide +kernel
theorem dX7_rollback_177 : decode cX7_rollback 177 = .ok (.goto (-32), 3) := by decide +kernel
theorem dX7_rollback_180 : decode cX7_rollback 180 = .ok (.iconst 0, 1) := by decide +kernel
theorem dX7_rollback_181 : decode cX7_rollback 181 = .ok (.istore 6, 2) := by decide +kernel
theorem dX7_rollback_183 : decode cX7_rollback 183 = .ok (.iload 6, 2) := by decide +kernel
theorem dX7_rollback_185 : decode cX7_rollback 185 = .ok (.sipush 128, 3) := by decide +kernel
theorem dX7_rollback_188 : decode cX7_rollback 188 = .ok (.if_icmp .ge 41, 3) := by decide +kernel
theorem dX7_rollback_191 : decode cX7_rollback 191 = .ok (.aload_n 0, 1) := by decide +kernel
theorem dX7_rollback_192 : decode cX7_rollback 192 = .ok (.getfield 7, 3) := by decide +kernel
theorem dX7_rollback_195 : decode cX7_rollback 195 = .ok (.iconst 0, 1) := by decide +kernel
theorem dX7_rollback_196 : decode cX7_rollback 196 = .ok (.sipush 128, 3) := by decide +kernel
theorem dX7_rollback_199 : decode cX7_rollback 199 = .ok (.iload_n 1, 1) := by decide +kernel
theorem dX7_rollback_200 : decode cX7_rollback 200 = .ok (.imul, 1) := by decide +kernel
theorem dX7_rollback_201 : decode cX7_rollback 201 = .ok (.iadd, 1) := by decide +kernel
theorem dX7_rollback_202 : decode cX7_rollback 202 = .ok (.iload 6, 2) := by decide +kernel
theorem dX7_rollback_204 : decode cX7_rollback 204 = .ok (.iadd, 1) := by decide +kernel
theorem dX7_rollback_205 : decode cX7_rollback 205 = .ok (.aload_n 0, 1) := by decide +kernel
theorem dX7_rollback_206 : decode cX7_rollback 206 = .ok (.getfield 7, 3) := by decide +kernel
theorem dX7_rollback_209 : decode cX7_rollback 209 = .ok (.sipush 768, 3) := by decide +kernel
theorem dX7_rollback_212 : decode cX7_rollback 212 = .ok (.sipush 128, 3) := by decide +kernel
theorem dX7_rollback_215 : decode cX7_rollback 215 = .ok (.iload_n 3, 1) := by decide +kernel
theorem dX7_rollback_216 : decode cX7_rollback 216 = .ok (.imul, 1) := by decide +kernel
theorem dX7_rollback_217 : decode cX7_rollback 217 = .ok (.iadd, 1) := by decide +kernel
theorem dX7_rollback_218 : decode cX7_rollback 218 = .ok (.iload 6, 2) := by decide +kernel
theorem dX7_rollback_220 : decode cX7_rollback 220 = .ok (.iadd, 1) := by decide +kernel
theorem dX7_rollback_221 : decode cX7_rollback 221 = .ok (.iaload, 1) := by decide +kernel
theorem dX7_rollback_222 : decode cX7_rollback 222 = .ok (.iastore, 1) := by decide +kernel
theorem dX7_rollback_223 : decode cX7_rollback 223 = .ok (.iinc 6 1, 3) := by decide +kernel
theorem dX7_rollback_226 : decode cX7_rollback 226 = .ok (.goto (-43), 3) := by decide +kernel
theorem dX7_rollback_229 : decode cX7_rollback 229 = .ok (.aload_n 0, 1) := by decide +kernel
theorem dX7_rollback_230 : decode cX7_rollback 230 = .ok (.invokevirtual 56, 3) := by decide +kernel
theorem dX7_rollback_233 : decode cX7_rollback 233 = .ok (.ifCond .ge 7, 3) := by decide +kernel
theorem dX7_rollback_236 : decode cX7_rollback 236 = .ok (.iconst 0, 1) := by decide +kernel
theorem dX7_rollback_237 : decode cX7_rollback 237 = .ok (.goto 5, 3) := by decide +kernel
theorem dX7_rollback_240 : decode cX7_rollback 240 = .ok (.iload 5, 2) := by decide +kernel
theorem dX7_rollback_242 : decode cX7_rollback 242 = .ok (.ireturn, 1) := by decide +kernel
theorem dX7_changed_0 : decode cX7_changed 0 = .ok (.aload_n 0, 1) := by decide +kernel
theorem dX7_changed_1 : decode cX7_changed 1 = .ok (.iload_n 1, 1) := by decide +kernel
theorem dX7_changed_2 : decode cX7_changed 2 = .ok (.invokevirtual 83, 3) := by decide +kernel
theorem dX7_changed_5 : decode cX7_changed 5 = .ok (.istore_n 3, 1) := by decide +kernel
theorem dX7_changed_6 : decode cX7_changed 6 = .ok (.iconst 0, 1) := by decide +kernel
theorem dX7_changed_7 : decode cX7_changed 7 = .ok (.istore 4, 2) := by decide +kernel
theorem dX7_changed_9 : decode cX7_changed 9 = .ok (.aload_n 0, 1) := by decide +kernel
theorem dX7_changed_10 : decode cX7_changed 10 = .ok (.iload_n 3, 1) := by decide +kernel
theorem dX7_changed_11 : decode cX7_changed 11 = .ok (.ifCond .lt 15, 3) := by decide +kernel
theorem dX7_changed_14 : decode cX7_changed 14 = .ok (.aload_n 0, 1) := by decide +kernel
theorem dX7_changed_15 : decode cX7_changed 15 = .ok (.iload_n 2, 1) := by decide +kernel
theorem dX7_changed_16 : decode cX7_changed 16 = .ok (.invokevirtual 41, 3) := by decide +kernel
theorem dX7_changed_19 : decode cX7_changed 19 = .ok (.ifCond .eq 7, 3) := by decide +kernel
theorem dX7_changed_22 : decode cX7_changed 22 = .ok (.iconst 1, 1) := by decide +kernel
theorem dX7_changed_23 : decode cX7_changed 23 = .ok (.goto 4, 3) := by decide +kernel
theorem dX7_changed_26 : decode cX7_changed 26 = .ok (.iconst 0, 1) := by decide +kernel
theorem dX7_changed_27 : decode cX7_changed 27 = .ok (.iconst 1, 1) := by decide +kernel
theorem dX7_changed_28 : decode cX7_changed 28 = .ok (.invokevirtual 59, 3) := by decide +kernel
theorem dX7_changed_31 : decode cX7_changed 31 = .ok (.istore 5, 2) := by decide +kernel
theorem dX7_changed_33 : decode cX7_changed 33 = .ok (.iconst 0, 1) := by decide +kernel
theorem dX7_changed_34 : decode cX7_changed 34 = .ok (.istore 6, 2) := by decide +kernel
theorem dX7_changed_36 : decode cX7_changed 36 = .ok (.iload 6, 2) := by decide +kernel
theorem dX7_changed_38 : decode cX7_changed 38 = .ok (.sipush 128, 3) := by decide +kernel
theorem dX7_changed_41 : decode cX7_changed 41 = .ok (.if_icmp .ge 59, 3) := by decide +kernel
theorem dX7_changed_44 : decode cX7_changed 44 = .ok (.iload 5, 2) := by decide +kernel
theorem dX7_changed_46 : decode cX7_changed 46 = .ok (.ifCond .eq 54, 3) := by decide +kernel
theorem dX7_changed_49 : decode cX7_changed 49 = .ok (.iload 4, 2) := by decide +kernel
theorem dX7_changed_51 : decode cX7_changed 51 = .ok (.aload_n 0, 1) := by decide +kernel
theorem dX7_changed_52 : decode cX7_changed 52 = .ok (.getfield 7, 3) := by decide +kernel
theorem dX7_changed_55 : decode cX7_changed 55 = .ok (.iconst 0, 1) := by decide +kernel
theorem dX7_changed_56 : decode cX7_changed 56 = .ok (.sipush 128, 3) := by decide +kernel
theorem dX7_changed_59 : decode cX7_changed 59 = .ok (.iload_n 2, 1) := by decide +kernel
theorem dX7_changed_60 : decode cX7_changed 60 = .ok (.imul, 1) := by decide +kernel
theorem dX7_changed_61 : decode cX7_changed 61 = .ok (.iadd, 1) := by decide +kernel
theorem dX7_changed_62 : decode cX7_changed 62 = .ok (.iload 6, 2) := by decide +kernel
theorem dX7_changed_64 : decode cX7_changed 64 = .ok (.iadd, 1) := by decide +kernel
theorem dX7_changed_65 : decode cX7_changed 65 = .ok (.iaload, 1) := by decide +kernel
theorem dX7_changed_66 : decode cX7_changed 66 = .ok (.aload_n 0, 1) := by decide +kernel
theorem dX7_changed_67 : decode cX7_changed 67 = .ok (.getfield 7, 3) := by decide +kernel
theorem dX7_changed_70 : decode cX7_changed 70 = .ok (.sipush 768, 3) := by decide +kernel
theorem dX7_changed_73 : decode cX7_changed 73 = .ok (.sipush 128, 3) := by decide +kernel
theorem dX7_changed_76 : decode cX7_changed 76 = .ok (.iload_n 3, 1) := by decide +kernel
theorem dX7_changed_77 : decode cX7_changed 77 = .ok (.imul, 1) := by decide +kernel
theorem dX7_changed_78 : decode cX7_changed 78 = .ok (.iadd, 1) := by decide +kernel
theorem dX7_changed_79 : decode cX7_changed 79 = .ok (.iload 6, 2) := by decide +kernel
theorem dX7_changed_81 : decode cX7_changed 81 = .ok (.iadd, 1) := by decide +kernel
theorem dX7_changed_82 : decode cX7_changed 82 = .ok (.iaload, 1) := by decide +kernel
theorem dX7_changed_83 : decode cX7_changed 83 = .ok (.if_icmp .eq 7, 3) := by decide +kernel
theorem dX7_changed_86 : decode cX7_changed 86 = .ok (.iconst 1, 1) := by decide +kernel
theorem dX7_changed_87 : decode cX7_changed 87 = .ok (.goto 4, 3) := by decide +kernel
theorem dX7_changed_90 : decode cX7_changed 90 = .ok (.iconst 0, 1) := by decide +kernel
theorem dX7_changed_91 : decode cX7_changed 91 = .ok (.iadd, 1) := by decide +kernel
theorem dX7_changed_92 : decode cX7_changed 92 = .ok (.istore 4, 2) := by decide +kernel
theorem dX7_changed_94 : decode cX7_changed 94 = .ok (.iinc 6 1, 3) := by decide +kernel
theorem dX7_changed_97 : decode cX7_changed 97 = .ok (.goto (-61), 3) := by decide +kernel
theorem dX7_changed_100 : decode cX7_changed 100 = .ok (.iload 4, 2) := by decide +kernel
theorem dX7_changed_102 : decode cX7_changed 102 = .ok (.ireturn, 1) := by decide +kernel
theorem dX7_countSets_0 : decode cX7_countSets 0 = .ok (.iconst 0, 1) := by decide +kernel
theorem dX7_countSets_1 : decode cX7_countSets 1 = .ok (.istore_n 1, 1) := by decide +kernel
theorem dX7_countSets_2 : decode cX7_countSets 2 = .ok (.iconst 0, 1) := by decide +kernel
theorem dX7_countSets_3 : decode cX7_countSets 3 = .ok (.istore_n 2, 1) := by decide +kernel
theorem dX7_countSets_4 : decode cX7_countSets 4 = .ok (.iload_n 2, 1) := by decide +kernel
theorem dX7_countSets_5 : decode cX7_countSets 5 = .ok (.bipush 6, 2) := by decide +kernel
theorem dX7_countSets_7 : decode cX7_countSets 7 = .ok (.if_icmp .ge 22, 3) := by decide +kernel
theorem dX7_countSets_10 : decode cX7_countSets 10 = .ok (.iload_n 1, 1) := by decide +kernel
theorem dX7_countSets_11 : decode cX7_countSets 11 = .ok (.aload_n 0, 1) := by decide +kernel
theorem dX7_countSets_12 : decode cX7_countSets 12 = .ok (.getfield 7, 3) := by decide +kernel
theorem dX7_countSets_15 : decode cX7_countSets 15 = .ok (.sipush 2304, 3) := by decide +kernel
theorem dX7_countSets_18 : decode cX7_countSets 18 = .ok (.iload_n 2, 1) := by decide +kernel
theorem dX7_countSets_19 : decode cX7_countSets 19 = .ok (.iadd, 1) := by decide +kernel
theorem dX7_countSets_20 : decode cX7_countSets 20 = .ok (.iaload, 1) := by decide +kernel
theorem dX7_countSets_21 : decode cX7_countSets 21 = .ok (.iadd, 1) := by decide +kernel
theorem dX7_countSets_22 : decode cX7_countSets 22 = .ok (.istore_n 1, 1) := by decide +kernel
theorem dX7_countSets_23 : decode cX7_countSets 23 = .ok (.iinc 2 1, 3) := by decide +kernel
theorem dX7_countSets_26 : decode cX7_countSets 26 = .ok (.goto (-22), 3) := by decide +kernel
theorem dX7_countSets_29 : decode cX7_countSets 29 = .ok (.iload_n 1, 1) := by decide +kernel
theorem dX7_countSets_30 : decode cX7_countSets 30 = .ok (.ireturn, 1) := by decide +kernel
theorem dX7_datasets_0 : decode cX7_datasets 0 = .ok (.aload_n 0, 1) := by decide +kernel
theorem dX7_datasets_1 : decode cX7_datasets 1 = .ok (.iconst 0, 1) := by decide +kernel
theorem dX7_datasets_2 : decode cX7_datasets 2 = .ok (.putfield 22, 3) := by decide +kernel
theorem dX7_datasets_5 : decode cX7_datasets 5 = .ok (.aload_n 0, 1) := by decide +kernel
theorem dX7_datasets_6 : decode cX7_datasets 6 = .ok (.invokevirtual 102, 3) := by decide +kernel
theorem dX7_datasets_9 : decode cX7_datasets 9 = .ok (.ireturn, 1) := by decide +kernel
theorem dX7_makeClone_0 : decode cX7_makeClone 0 = .ok (.aload_n 0, 1) := by decide +kernel
theorem dX7_makeClone_1 : decode cX7_makeClone 1 = .ok (.iload_n 1, 1) := by decide +kernel
theorem dX7_makeClone_2 : decode cX7_makeClone 2 = .ok (.invokevirtual 83, 3) := by decide +kernel
theorem dX7_makeClone_5 : decode cX7_makeClone 5 = .ok (.istore_n 2, 1) := by decide +kernel
theorem dX7_makeClone_6 : decode cX7_makeClone 6 = .ok (.aload_n 0, 1) := by decide +kernel
theorem dX7_makeClone_7 : decode cX7_makeClone 7 = .ok (.iload_n 2, 1) := by decide +kernel
theorem dX7_makeClone_8 : decode cX7_makeClone 8 = .ok (.ifCond .lt 7, 3) := by decide +kernel
theorem dX7_makeClone_11 : decode cX7_makeClone 11 = .ok (.iconst 1, 1) := by decide +kernel
theorem dX7_makeClone_12 : decode cX7_makeClone 12 = .ok (.goto 4, 3) := by decide +kernel
theorem dX7_makeClone_15 : decode cX7_makeClone 15 = .ok (.iconst 0, 1) := by decide +kernel
theorem dX7_makeClone_16 : decode cX7_makeClone 16 = .ok (.aload_n 0, 1) := by decide +kernel
theorem dX7_makeClone_17 : decode cX7_makeClone 17 = .ok (.invokevirtual 102, 3) := by decide +kernel
theorem dX7_makeClone_20 : decode cX7_makeClone 20 = .ok (.bipush 6, 2) := by decide +kernel
theorem dX7_makeClone_22 : decode cX7_makeClone 22 = .ok (.if_icmp .ge 7, 3) := by decide +kernel
theorem dX7_makeClone_25 : decode cX7_makeClone 25 = .ok (.iconst 1, 1) := by decide +kernel
theorem dX7_makeClone_26 : decode cX7_makeClone 26 = .ok (.goto 4, 3) := by decide +kernel
theorem dX7_makeClone_29 : decode cX7_makeClone 29 = .ok (.iconst 0, 1) := by decide +kernel
theorem dX7_makeClone_30 : decode cX7_makeClone 30 = .ok (.invokevirtual 59, 3) := by decide +kernel
theorem dX7_makeClone_33 : decode cX7_makeClone 33 = .ok (.ifCond .ne 5, 3) := by decide +kernel
theorem dX7_makeClone_36 : decode cX7_makeClone 36 = .ok (.iconst 0, 1) := by decide +kernel
theorem dX7_makeClone_37 : decode cX7_makeClone 37 = .ok (.ireturn, 1) := by decide +kernel
theorem dX7_makeClone_38 : decode cX7_makeClone 38 = .ok (.iconst 0, 1) := by decide +kernel
theorem dX7_makeClone_39 : decode cX7_makeClone 39 = .ok (.istore_n 3, 1) := by decide +kernel
theorem dX7_makeClone_40 : decode cX7_makeClone 40 = .ok (.aload_n 0, 1) := by decide +kernel
theorem dX7_makeClone_41 : decode cX7_makeClone 41 = .ok (.getfield 7, 3) := by decide +kernel
theorem dX7_makeClone_44 : decode cX7_makeClone 44 = .ok (.sipush 2304, 3) := by decide +kernel
theorem dX7_makeClone_47 : decode cX7_makeClone 47 = .ok (.iload_n 3, 1) := by decide +kernel
theorem dX7_makeClone_48 : decode cX7_makeClone 48 = .ok (.iadd, 1) := by decide +kernel
theorem dX7_makeClone_49 : decode cX7_makeClone 49 = .ok (.iaload, 1) := by decide +kernel
theorem dX7_makeClone_50 : decode cX7_makeClone 50 = .ok (.iconst 1, 1) := by decide +kernel
theorem dX7_makeClone_51 : decode cX7_makeClone 51 = .ok (.if_icmp .ne 9, 3) := by decide +kernel
theorem dX7_makeClone_54 : decode cX7_makeClone 54 = .ok (.iinc 3 1, 3) := by decide +kernel
theorem dX7_makeClone_57 : decode cX7_makeClone 57 = .ok (.goto (-17), 3) := by decide +kernel
theorem dX7_makeClone_60 : decode cX7_makeClone 60 = .ok (.aload_n 0, 1) := by decide +kernel
theorem dX7_makeClone_61 : decode cX7_makeClone 61 = .ok (.getfield 7, 3) := by decide +kernel
theorem dX7_makeClone_64 : decode cX7_makeClone 64 = .ok (.sipush 2304, 3) := by decide +kernel
theorem dX7_makeClone_67 : decode cX7_makeClone 67 = .ok (.iload_n 3, 1) := by decide +kernel
theorem dX7_makeClone_68 : decode cX7_makeClone 68 = .ok (.iadd, 1) := by decide +kernel
theorem dX7_makeClone_69 : decode cX7_makeClone 69 = .ok (.iconst 1, 1) := by decide +kernel
theorem dX7_makeClone_70 : decode cX7_makeClone 70 = .ok (.iastore, 1) := by decide +kernel
theorem dX7_makeClone_71 : decode cX7_makeClone 71 = .ok (.aload_n 0, 1) := by decide +kernel
theorem dX7_makeClone_72 : decode cX7_makeClone 72 = .ok (.getfield 7, 3) := by decide +kernel
theorem dX7_makeClone_75 : decode cX7_makeClone 75 = .ok (.sipush 2310, 3) := by decide +kernel
theorem dX7_makeClone_78 : decode cX7_makeClone 78 = .ok (.iload_n 3, 1) := by decide +kernel
theorem dX7_makeClone_79 : decode cX7_makeClone 79 = .ok (.iadd, 1) := by decide +kernel
theorem dX7_makeClone_80 : decode cX7_makeClone 80 = .ok (.iload_n 2, 1) := by decide +kernel
theorem dX7_makeClone_81 : decode cX7_makeClone 81 = .ok (.iconst 1, 1) := by decide +kernel
theorem dX7_makeClone_82 : decode cX7_makeClone 82 = .ok (.iadd, 1) := by decide +kernel
theorem dX7_makeClone_83 : decode cX7_makeClone 83 = .ok (.iastore, 1) := by decide +kernel
theorem dX7_makeClone_84 : decode cX7_makeClone 84 = .ok (.aload_n 0, 1) := by decide +kernel
theorem dX7_makeClone_85 : decode cX7_makeClone 85 = .ok (.getfield 7, 3) := by decide +kernel
theorem dX7_makeClone_88 : decode cX7_makeClone 88 = .ok (.sipush 2388, 3) := by decide +kernel
theorem dX7_makeClone_91 : decode cX7_makeClone 91 = .ok (.iload_n 3, 1) := by decide +kernel
theorem dX7_makeClone_92 : decode cX7_makeClone 92 = .ok (.iadd, 1) := by decide +kernel
theorem dX7_makeClone_93 : decode cX7_makeClone 93 = .ok (.iconst 0, 1) := by decide +kernel
theorem dX7_makeClone_94 : decode cX7_makeClone 94 = .ok (.iastore, 1) := by decide +kernel
theorem dX7_makeClone_95 : decode cX7_makeClone 95 = .ok (.iconst 0, 1) := by decide +kernel
theorem dX7_makeClone_96 : decode cX7_makeClone 96 = .ok (.istore 4, 2) := by decide +kernel
theorem dX7_makeClone_98 : decode cX7_makeClone 98 = .ok (.iload 4, 2) := by decide +kernel
theorem dX7_makeClone_100 : decode cX7_makeClone 100 = .ok (.sipush 128, 3) := by decide +kernel
theorem dX7_makeClone_103 : decode cX7_makeClone 103 = .ok (.if_icmp .ge 41, 3) := by decide +kernel
theorem dX7_makeClone_106 : decode cX7_makeClone 106 = .ok (.aload_n 0, 1) := by decide +kernel
theorem dX7_makeClone_107 : decode cX7_makeClone 107 = .ok (.getfield 7, 3) := by decide +kernel
theorem dX7_makeClone_110 : decode cX7_makeClone 110 = .ok (.iconst 0, 1) := by decide +kernel
theorem dX7_makeClone_111 : decode cX7_makeClone 111 = .ok (.sipush 128, 3) := by decide +kernel
theorem dX7_makeClone_114 : decode cX7_makeClone 114 = .ok (.iload_n 3, 1) := by decide +kernel
theorem dX7_makeClone_115 : decode cX7_makeClone 115 = .ok (.imul, 1) := by decide +kernel
theorem dX7_makeClone_116 : decode cX7_makeClone 116 = .ok (.iadd, 1) := by decide +kernel
theorem dX7_makeClone_117 : decode cX7_makeClone 117 = .ok (.iload 4, 2) := by decide +kernel
theorem dX7_makeClone_119 : decode cX7_makeClone 119 = .ok (.iadd, 1) := by decide +kernel
theorem dX7_makeClone_120 : decode cX7_makeClone 120 = .ok (.aload_n 0, 1) := by decide +kernel
theorem dX7_makeClone_121 : decode cX7_makeClone 121 = .ok (.getfield 7, 3) := by decide +kernel
theorem dX7_makeClone_124 : decode cX7_makeClone 124 = .ok (.sipush 768, 3) := by decide +kernel
theorem dX7_makeClone_127 : decode cX7_makeClone 127 = .ok (.sipush 128, 3) := by decide +kernel
theorem dX7_makeClone_130 : decode cX7_makeClone 130 = .ok (.iload_n 2, 1) := by decide +kernel
theorem dX7_makeClone_131 : decode cX7_makeClone 131 = .ok (.imul, 1) := by decide +kernel
theorem dX7_makeClone_132 : decode cX7_makeClone 132 = .ok (.iadd, 1) := by decide +kernel
theorem dX7_makeClone_133 : decode cX7_makeClone 133 = .ok (.iload 4, 2) := by decide +kernel
theorem dX7_makeClone_135 : decode cX7_makeClone 135 = .ok (.iadd, 1) := by decide +kernel
theorem dX7_makeClone_136 : decode cX7_makeClone 136 = .ok (.iaload, 1) := by decide +kernel
theorem dX7_makeClone_137 : decode cX7_makeClone 137 = .ok (.iastore, 1) := by decide +kernel
theorem dX7_makeClone_138 : decode cX7_makeClone 138 = .ok (.iinc 4 1, 3) := by decide +kernel
theorem dX7_makeClone_141 : decode cX7_makeClone 141 = .ok (.goto (-43), 3) := by decide +kernel
theorem dX7_makeClone_144 : decode cX7_makeClone 144 = .ok (.aload_n 0, 1) := by decide +kernel
theorem dX7_makeClone_145 : decode cX7_makeClone 145 = .ok (.invokevirtual 56, 3) := by decide +kernel
theorem dX7_makeClone_148 : decode cX7_makeClone 148 = .ok (.ifCond .ge 7, 3) := by decide +kernel
theorem dX7_makeClone_151 : decode cX7_makeClone 151 = .ok (.iconst 0, 1) := by decide +kernel
theorem dX7_makeClone_152 : decode cX7_makeClone 152 = .ok (.goto 4, 3) := by decide +kernel
theorem dX7_makeClone_155 : decode cX7_makeClone 155 = .ok (.iload_n 3, 1) := by decide +kernel
theorem dX7_makeClone_156 : decode cX7_makeClone 156 = .ok (.ireturn, 1) := by decide +kernel
theorem dX7_origin_0 : decode cX7_origin 0 = .ok (.aload_n 0, 1) := by decide +kernel
theorem dX7_origin_1 : decode cX7_origin 1 = .ok (.aload_n 0, 1) := by decide +kernel
theorem dX7_origin_2 : decode cX7_origin 2 = .ok (.iload_n 1, 1) := by decide +kernel
theorem dX7_origin_3 : decode cX7_origin 3 = .ok (.invokevirtual 41, 3) := by decide +kernel
theorem dX7_origin_6 : decode cX7_origin 6 = .ok (.iconst 1, 1) := by decide +kernel
theorem dX7_origin_7 : decode cX7_origin 7 = .ok (.invokevirtual 59, 3) := by decide +kernel
theorem dX7_origin_10 : decode cX7_origin 10 = .ok (.istore_n 2, 1) := by decide +kernel
theorem dX7_origin_11 : decode cX7_origin 11 = .ok (.iload_n 2, 1) := by decide +kernel
theorem dX7_origin_12 : decode cX7_origin 12 = .ok (.ifCond .ne 7, 3) := by decide +kernel
theorem dX7_origin_15 : decode cX7_origin 15 = .ok (.iconst 0, 1) := by decide +kernel
theorem dX7_origin_16 : decode cX7_origin 16 = .ok (.goto 43, 3) := by decide +kernel
theorem dX7_origin_19 : decode cX7_origin 19 = .ok (.aload_n 0, 1) := by decide +kernel
theorem dX7_origin_20 : decode cX7_origin 20 = .ok (.getfield 7, 3) := by decide +kernel
theorem dX7_origin_23 : decode cX7_origin 23 = .ok (.sipush 2310, 3) := by decide +kernel
theorem dX7_origin_26 : decode cX7_origin 26 = .ok (.iload_n 1, 1) := by decide +kernel
theorem dX7_origin_27 : decode cX7_origin 27 = .ok (.iadd, 1) := by decide +kernel
theorem dX7_origin_28 : decode cX7_origin 28 = .ok (.iaload, 1) := by decide +kernel
theorem dX7_origin_29 : decode cX7_origin 29 = .ok (.ifCond .ne 7, 3) := by decide +kernel
theorem dX7_origin_32 : decode cX7_origin 32 = .ok (.iconst (-1), 1) := by decide +kernel
theorem dX7_origin_33 : decode cX7_origin 33 = .ok (.goto 26, 3) := by decide +kernel
theorem dX7_origin_36 : decode cX7_origin 36 = .ok (.aload_n 0, 1) := by decide +kernel
theorem dX7_origin_37 : decode cX7_origin 37 = .ok (.getfield 7, 3) := by decide +kernel
theorem dX7_origin_40 : decode cX7_origin 40 = .ok (.sipush 2394, 3) := by decide +kernel
theorem dX7_origin_43 : decode cX7_origin 43 = .ok (.aload_n 0, 1) := by decide +kernel
theorem dX7_origin_44 : decode cX7_origin 44 = .ok (.getfield 7, 3) := by decide +kernel
theorem dX7_origin_47 : decode cX7_origin 47 = .ok (.sipush 2310, 3) := by decide +kernel
theorem dX7_origin_50 : decode cX7_origin 50 = .ok (.iload_n 1, 1) := by decide +kernel
theorem dX7_origin_51 : decode cX7_origin 51 = .ok (.iadd, 1) := by decide +kernel
theorem dX7_origin_52 : decode cX7_origin 52 = .ok (.iaload, 1) := by decide +kernel
theorem dX7_origin_53 : decode cX7_origin 53 = .ok (.iadd, 1) := by decide +kernel
theorem dX7_origin_54 : decode cX7_origin 54 = .ok (.iconst 1, 1) := by decide +kernel
theorem dX7_origin_55 : decode cX7_origin 55 = .ok (.isub, 1) := by decide +kernel
theorem dX7_origin_56 : decode cX7_origin 56 = .ok (.iaload, 1) := by decide +kernel
theorem dX7_origin_57 : decode cX7_origin 57 = .ok (.iconst 1, 1) := by decide +kernel
theorem dX7_origin_58 : decode cX7_origin 58 = .ok (.isub, 1) := by decide +kernel
theorem dX7_origin_59 : decode cX7_origin 59 = .ok (.ireturn, 1) := by decide +kernel
theorem dX7_promote_0 : decode cX7_promote 0 = .ok (.aload_n 0, 1) := by decide +kernel
theorem dX7_promote_1 : decode cX7_promote 1 = .ok (.iload_n 1, 1) := by decide +kernel
theorem dX7_promote_2 : decode cX7_promote 2 = .ok (.invokevirtual 41, 3) := by decide +kernel
theorem dX7_promote_5 : decode cX7_promote 5 = .ok (.istore_n 2, 1) := by decide +kernel
theorem dX7_promote_6 : decode cX7_promote 6 = .ok (.aload_n 0, 1) := by decide +kernel
theorem dX7_promote_7 : decode cX7_promote 7 = .ok (.iload_n 2, 1) := by decide +kernel
theorem dX7_promote_8 : decode cX7_promote 8 = .ok (.iload_n 2, 1) := by decide +kernel
theorem dX7_promote_9 : decode cX7_promote 9 = .ok (.ifCond .eq 20, 3) := by decide +kernel
theorem dX7_promote_12 : decode cX7_promote 12 = .ok (.aload_n 0, 1) := by decide +kernel
theorem dX7_promote_13 : decode cX7_promote 13 = .ok (.getfield 7, 3) := by decide +kernel
theorem dX7_promote_16 : decode cX7_promote 16 = .ok (.sipush 2310, 3) := by decide +kernel
theorem dX7_promote_19 : decode cX7_promote 19 = .ok (.iload_n 1, 1) := by decide +kernel
theorem dX7_promote_20 : decode cX7_promote 20 = .ok (.iadd, 1) := by decide +kernel
theorem dX7_promote_21 : decode cX7_promote 21 = .ok (.iaload, 1) := by decide +kernel
theorem dX7_promote_22 : decode cX7_promote 22 = .ok (.ifCond .le 7, 3) := by decide +kernel
theorem dX7_promote_25 : decode cX7_promote 25 = .ok (.iconst 1, 1) := by decide +kernel
theorem dX7_promote_26 : decode cX7_promote 26 = .ok (.goto 4, 3) := by decide +kernel
theorem dX7_promote_29 : decode cX7_promote 29 = .ok (.iconst 0, 1) := by decide +kernel
theorem dX7_promote_30 : decode cX7_promote 30 = .ok (.invokevirtual 59, 3) := by decide +kernel
theorem dX7_promote_33 : decode cX7_promote 33 = .ok (.ifCond .ne 5, 3) := by decide +kernel
theorem dX7_promote_36 : decode cX7_promote 36 = .ok (.iconst 0, 1) := by decide +kernel
theorem dX7_promote_37 : decode cX7_promote 37 = .ok (.ireturn, 1) := by decide +kernel
theorem dX7_promote_38 : decode cX7_promote 38 = .ok (.aload_n 0, 1) := by decide +kernel
theorem dX7_promote_39 : decode cX7_promote 39 = .ok (.getfield 7, 3) := by decide +kernel
theorem dX7_promote_42 : decode cX7_promote 42 = .ok (.sipush 2310, 3) := by decide +kernel
theorem dX7_promote_45 : decode cX7_promote 45 = .ok (.iload_n 1, 1) := by decide +kernel
theorem dX7_promote_46 : decode cX7_promote 46 = .ok (.iadd, 1) := by decide +kernel
theorem dX7_promote_47 : decode cX7_promote 47 = .ok (.iaload, 1) := by decide +kernel
theorem dX7_promote_48 : decode cX7_promote 48 = .ok (.iconst 1, 1) := by decide +kernel
theorem dX7_promote_49 : decode cX7_promote 49 = .ok (.isub, 1) := by decide +kernel
theorem dX7_promote_50 : decode cX7_promote 50 = .ok (.istore_n 3, 1) := by decide +kernel
theorem dX7_promote_51 : decode cX7_promote 51 = .ok (.aload_n 0, 1) := by decide +kernel
theorem dX7_promote_52 : decode cX7_promote 52 = .ok (.getfield 7, 3) := by decide +kernel
theorem dX7_promote_55 : decode cX7_promote 55 = .ok (.sipush 2418, 3) := by decide +kernel
theorem dX7_promote_58 : decode cX7_promote 58 = .ok (.iload_n 3, 1) := by decide +kernel
theorem dX7_promote_59 : decode cX7_promote 59 = .ok (.iadd, 1) := by decide +kernel
theorem dX7_promote_60 : decode cX7_promote 60 = .ok (.iaload, 1) := by decide +kernel
theorem dX7_promote_61 : decode cX7_promote 61 = .ok (.istore 4, 2) := by decide +kernel
theorem dX7_promote_63 : decode cX7_promote 63 = .ok (.aload_n 0, 1) := by decide +kernel
theorem dX7_promote_64 : decode cX7_promote 64 = .ok (.iload_n 3, 1) := by decide +kernel
theorem dX7_promote_65 : decode cX7_promote 65 = .ok (.invokevirtual 92, 3) := by decide +kernel
theorem dX7_promote_68 : decode cX7_promote 68 = .ok (.iconst 1, 1) := by decide +kernel
theorem dX7_promote_69 : decode cX7_promote 69 = .ok (.iadd, 1) := by decide +kernel
theorem dX7_promote_70 : decode cX7_promote 70 = .ok (.istore 5, 2) := by decide +kernel
theorem dX7_promote_72 : decode cX7_promote 72 = .ok (.aload_n 0, 1) := by decide +kernel
theorem dX7_promote_73 : decode cX7_promote 73 = .ok (.getfield 7, 3) := by decide +kernel
theorem dX7_promote_76 : decode cX7_promote 76 = .ok (.sipush 2388, 3) := by decide +kernel
theorem dX7_promote_79 : decode cX7_promote 79 = .ok (.iload_n 1, 1) := by decide +kernel
theorem dX7_promote_80 : decode cX7_promote 80 = .ok (.iadd, 1) := by decide +kernel
theorem dX7_promote_81 : decode cX7_promote 81 = .ok (.iaload, 1) := by decide +kernel
theorem dX7_promote_82 : decode cX7_promote 82 = .ok (.iconst 1, 1) := by decide +kernel
theorem dX7_promote_83 : decode cX7_promote 83 = .ok (.isub, 1) := by decide +kernel
theorem dX7_promote_84 : decode cX7_promote 84 = .ok (.istore 6, 2) := by decide +kernel
theorem dX7_promote_86 : decode cX7_promote 86 = .ok (.iload 6, 2) := by decide +kernel
theorem dX7_promote_88 : decode cX7_promote 88 = .ok (.ifCond .lt 44, 3) := by decide +kernel
theorem dX7_promote_91 : decode cX7_promote 91 = .ok (.aload_n 0, 1) := by decide +kernel
theorem dX7_promote_92 : decode cX7_promote 92 = .ok (.getfield 7, 3) := by decide +kernel
theorem dX7_promote_95 : decode cX7_promote 95 = .ok (.sipush 2316, 3) := by decide +kernel
theorem dX7_promote_98 : decode cX7_promote 98 = .ok (.bipush 12, 2) := by decide +kernel
theorem dX7_promote_100 : decode cX7_promote 100 = .ok (.iload_n 1, 1) := by decide +kernel
theorem dX7_promote_101 : decode cX7_promote 101 = .ok (.imul, 1) := by decide +kernel
theorem dX7_promote_102 : decode cX7_promote 102 = .ok (.iadd, 1) := by decide +kernel
theorem dX7_promote_103 : decode cX7_promote 103 = .ok (.iload 6, 2) := by decide +kernel
theorem dX7_promote_105 : decode cX7_promote 105 = .ok (.iadd, 1) := by decide +kernel
theorem dX7_promote_106 : decode cX7_promote 106 = .ok (.iload 5, 2) := by decide +kernel
theorem dX7_promote_108 : decode cX7_promote 108 = .ok (.iadd, 1) := by decide +kernel
theorem dX7_promote_109 : decode cX7_promote 109 = .ok (.aload_n 0, 1) := by decide +kernel
theorem dX7_promote_110 : decode cX7_promote 110 = .ok (.getfield 7, 3) := by decide +kernel
theorem dX7_promote_113 : decode cX7_promote 113 = .ok (.sipush 2316, 3) := by decide +kernel
theorem dX7_promote_116 : decode cX7_promote 116 = .ok (.bipush 12, 2) := by decide +kernel
theorem dX7_promote_118 : decode cX7_promote 118 = .ok (.iload_n 1, 1) := by decide +kernel
theorem dX7_promote_119 : decode cX7_promote 119 = .ok (.imul, 1) := by decide +kernel
theorem dX7_promote_120 : decode cX7_promote 120 = .ok (.iadd, 1) := by decide +kernel
theorem dX7_promote_121 : decode cX7_promote 121 = .ok (.iload 6, 2) := by decide +kernel
theorem dX7_promote_123 : decode cX7_promote 123 = .ok (.iadd, 1) := by decide +kernel
theorem dX7_promote_124 : decode cX7_promote 124 = .ok (.iaload, 1) := by decide +kernel
theorem dX7_promote_125 : decode cX7_promote 125 = .ok (.iastore, 1) := by decide +kernel
theorem dX7_promote_126 : decode cX7_promote 126 = .ok (.iinc 6 (-1), 3) := by decide +kernel
theorem dX7_promote_129 : decode cX7_promote 129 = .ok (.goto (-43), 3) := by decide +kernel
theorem dX7_promote_132 : decode cX7_promote 132 = .ok (.iconst 0, 1) := by decide +kernel
theorem dX7_promote_133 : decode cX7_promote 133 = .ok (.istore 6, 2) := by decide +kernel
theorem dX7_promote_135 : decode cX7_promote 135 = .ok (.iload 6, 2) := by decide +kernel
theorem dX7_promote_137 : decode cX7_promote 137 = .ok (.iload 5, 2) := by decide +kernel
theorem dX7_promote_139 : decode cX7_promote 139 = .ok (.if_icmp .ge 58, 3) := by decide +kernel
theorem dX7_promote_142 : decode cX7_promote 142 = .ok (.aload_n 0, 1) := by decide +kernel
theorem dX7_promote_143 : decode cX7_promote 143 = .ok (.getfield 7, 3) := by decide +kernel
theorem dX7_promote_146 : decode cX7_promote 146 = .ok (.sipush 2316, 3) := by decide +kernel
theorem dX7_promote_149 : decode cX7_promote 149 = .ok (.bipush 12, 2) := by decide +kernel
theorem dX7_promote_151 : decode cX7_promote 151 = .ok (.iload 4, 2) := by decide +kernel
theorem dX7_promote_153 : decode cX7_promote 153 = .ok (.imul, 1) := by decide +kernel
theorem dX7_promote_154 : decode cX7_promote 154 = .ok (.iadd, 1) := by decide +kernel
theorem dX7_promote_155 : decode cX7_promote 155 = .ok (.iload 6, 2) := by decide +kernel
theorem dX7_promote_157 : decode cX7_promote 157 = .ok (.iadd, 1) := by decide +kernel
theorem dX7_promote_158 : decode cX7_promote 158 = .ok (.iaload, 1) := by decide +kernel
theorem dX7_promote_159 : decode cX7_promote 159 = .ok (.istore 7, 2) := by decide +kernel
theorem dX7_promote_161 : decode cX7_promote 161 = .ok (.aload_n 0, 1) := by decide +kernel
theorem dX7_promote_162 : decode cX7_promote 162 = .ok (.getfield 7, 3) := by decide +kernel
theorem dX7_promote_165 : decode cX7_promote 165 = .ok (.sipush 2316, 3) := by decide +kernel
theorem dX7_promote_168 : decode cX7_promote 168 = .ok (.bipush 12, 2) := by decide +kernel
theorem dX7_promote_170 : decode cX7_promote 170 = .ok (.iload_n 1, 1) := by decide +kernel
theorem dX7_promote_171 : decode cX7_promote 171 = .ok (.imul, 1) := by decide +kernel
theorem dX7_promote_172 : decode cX7_promote 172 = .ok (.iadd, 1) := by decide +kernel
theorem dX7_promote_173 : decode cX7_promote 173 = .ok (.iload 6, 2) := by decide +kernel
theorem dX7_promote_175 : decode cX7_promote 175 = .ok (.iadd, 1) := by decide +kernel
theorem dX7_promote_176 : decode cX7_promote 176 = .ok (.iload 7, 2) := by decide +kernel
theorem dX7_promote_178 : decode cX7_promote 178 = .ok (.iastore, 1) := by decide +kernel
theorem dX7_promote_179 : decode cX7_promote 179 = .ok (.aload_n 0, 1) := by decide +kernel
theorem dX7_promote_180 : decode cX7_promote 180 = .ok (.getfield 7, 3) := by decide +kernel
theorem dX7_promote_183 : decode cX7_promote 183 = .ok (.sipush 2418, 3) := by decide +kernel
theorem dX7_promote_186 : decode cX7_promote 186 = .ok (.iload 7, 2) := by decide +kernel
theorem dX7_promote_188 : decode cX7_promote 188 = .ok (.iadd, 1) := by decide +kernel
theorem dX7_promote_189 : decode cX7_promote 189 = .ok (.iload_n 1, 1) := by decide +kernel
theorem dX7_promote_190 : decode cX7_promote 190 = .ok (.iastore, 1) := by decide +kernel
theorem dX7_promote_191 : decode cX7_promote 191 = .ok (.iinc 6 1, 3) := by decide +kernel
theorem dX7_promote_194 : decode cX7_promote 194 = .ok (.goto (-59), 3) := by decide +kernel
theorem dX7_promote_197 : decode cX7_promote 197 = .ok (.aload_n 0, 1) := by decide +kernel
theorem dX7_promote_198 : decode cX7_promote 198 = .ok (.getfield 7, 3) := by decide +kernel
theorem dX7_promote_201 : decode cX7_promote 201 = .ok (.sipush 2388, 3) := by decide +kernel
theorem dX7_promote_204 : decode cX7_promote 204 = .ok (.iload_n 1, 1) := by decide +kernel
theorem dX7_promote_205 : decode cX7_promote 205 = .ok (.iadd, 1) := by decide +kernel
theorem dX7_promote_206 : decode cX7_promote 206 = .ok (.dup2, 1) := by decide +kernel
theorem dX7_promote_207 : decode cX7_promote 207 = .ok (.iaload, 1) := by decide +kernel
theorem dX7_promote_208 : decode cX7_promote 208 = .ok (.iload 5, 2) := by decide +kernel
theorem dX7_promote_210 : decode cX7_promote 210 = .ok (.iadd, 1) := by decide +kernel
theorem dX7_promote_211 : decode cX7_promote 211 = .ok (.iastore, 1) := by decide +kernel
theorem dX7_promote_212 : decode cX7_promote 212 = .ok (.aload_n 0, 1) := by decide +kernel
theorem dX7_promote_213 : decode cX7_promote 213 = .ok (.getfield 7, 3) := by decide +kernel
theorem dX7_promote_216 : decode cX7_promote 216 = .ok (.sipush 2388, 3) := by decide +kernel
theorem dX7_promote_219 : decode cX7_promote 219 = .ok (.iload 4, 2) := by decide +kernel
theorem dX7_promote_221 : decode cX7_promote 221 = .ok (.iadd, 1) := by decide +kernel
theorem dX7_promote_222 : decode cX7_promote 222 = .ok (.dup2, 1) := by decide +kernel
theorem dX7_promote_223 : decode cX7_promote 223 = .ok (.iaload, 1) := by decide +kernel
theorem dX7_promote_224 : decode cX7_promote 224 = .ok (.iload 5, 2) := by decide +kernel
theorem dX7_promote_226 : decode cX7_promote 226 = .ok (.isub, 1) := by decide +kernel
theorem dX7_promote_227 : decode cX7_promote 227 = .ok (.iastore, 1) := by decide +kernel
theorem dX7_promote_228 : decode cX7_promote 228 = .ok (.iconst 0, 1) := by decide +kernel
theorem dX7_promote_229 : decode cX7_promote 229 = .ok (.istore 6, 2) := by decide +kernel
theorem dX7_promote_231 : decode cX7_promote 231 = .ok (.iload 6, 2) := by decide +kernel
theorem dX7_promote_233 : decode cX7_promote 233 = .ok (.aload_n 0, 1) := by decide +kernel
theorem dX7_promote_234 : decode cX7_promote 234 = .ok (.getfield 7, 3) := by decide +kernel
theorem dX7_promote_237 : decode cX7_promote 237 = .ok (.sipush 2388, 3) := by decide +kernel
theorem dX7_promote_240 : decode cX7_promote 240 = .ok (.iload 4, 2) := by decide +kernel
theorem dX7_promote_242 : decode cX7_promote 242 = .ok (.iadd, 1) := by decide +kernel
theorem dX7_promote_243 : decode cX7_promote 243 = .ok (.iaload, 1) := by decide +kernel
theorem dX7_promote_244 : decode cX7_promote 244 = .ok (.if_icmp .ge 46, 3) := by decide +kernel
theorem dX7_promote_247 : decode cX7_promote 247 = .ok (.aload_n 0, 1) := by decide +kernel
theorem dX7_promote_248 : decode cX7_promote 248 = .ok (.getfield 7, 3) := by decide +kernel
theorem dX7_promote_251 : decode cX7_promote 251 = .ok (.sipush 2316, 3) := by decide +kernel
theorem dX7_promote_254 : decode cX7_promote 254 = .ok (.bipush 12, 2) := by decide +kernel
theorem dX7_promote_256 : decode cX7_promote 256 = .ok (.iload 4, 2) := by decide +kernel
theorem dX7_promote_258 : decode cX7_promote 258 = .ok (.imul, 1) := by decide +kernel
theorem dX7_promote_259 : decode cX7_promote 259 = .ok (.iadd, 1) := by decide +kernel
theorem dX7_promote_260 : decode cX7_promote 260 = .ok (.iload 6, 2) := by decide +kernel
theorem dX7_promote_262 : decode cX7_promote 262 = .ok (.iadd, 1) := by decide +kernel
theorem dX7_promote_263 : decode cX7_promote 263 = .ok (.aload_n 0, 1) := by decide +kernel
theorem dX7_promote_264 : decode cX7_promote 264 = .ok (.getfield 7, 3) := by decide +kernel
theorem dX7_promote_267 : decode cX7_promote 267 = .ok (.sipush 2316, 3) := by decide +kernel
theorem dX7_promote_270 : decode cX7_promote 270 = .ok (.bipush 12, 2) := by decide +kernel
theorem dX7_promote_272 : decode cX7_promote 272 = .ok (.iload 4, 2) := by decide +kernel
theorem dX7_promote_274 : decode cX7_promote 274 = .ok (.imul, 1) := by decide +kernel
theorem dX7_promote_275 : decode cX7_promote 275 = .ok (.iadd, 1) := by decide +kernel
theorem dX7_promote_276 : decode cX7_promote 276 = .ok (.iload 6, 2) := by decide +kernel
theorem dX7_promote_278 : decode cX7_promote 278 = .ok (.iadd, 1) := by decide +kernel
theorem dX7_promote_279 : decode cX7_promote 279 = .ok (.iload 5, 2) := by decide +kernel
theorem dX7_promote_281 : decode cX7_promote 281 = .ok (.iadd, 1) := by decide +kernel
theorem dX7_promote_282 : decode cX7_promote 282 = .ok (.iaload, 1) := by decide +kernel
theorem dX7_promote_283 : decode cX7_promote 283 = .ok (.iastore, 1) := by decide +kernel
theorem dX7_promote_284 : decode cX7_promote 284 = .ok (.iinc 6 1, 3) := by decide +kernel
theorem dX7_promote_287 : decode cX7_promote 287 = .ok (.goto (-56), 3) := by decide +kernel
theorem dX7_promote_290 : decode cX7_promote 290 = .ok (.aload_n 0, 1) := by decide +kernel
theorem dX7_promote_291 : decode cX7_promote 291 = .ok (.getfield 7, 3) := by decide +kernel
theorem dX7_promote_294 : decode cX7_promote 294 = .ok (.sipush 2310, 3) := by decide +kernel
theorem dX7_promote_297 : decode cX7_promote 297 = .ok (.iload_n 1, 1) := by decide +kernel
theorem dX7_promote_298 : decode cX7_promote 298 = .ok (.iadd, 1) := by decide +kernel
theorem dX7_promote_299 : decode cX7_promote 299 = .ok (.aload_n 0, 1) := by decide +kernel
theorem dX7_promote_300 : decode cX7_promote 300 = .ok (.getfield 7, 3) := by decide +kernel
theorem dX7_promote_303 : decode cX7_promote 303 = .ok (.sipush 2310, 3) := by decide +kernel
theorem dX7_promote_306 : decode cX7_promote 306 = .ok (.iload 4, 2) := by decide +kernel
theorem dX7_promote_308 : decode cX7_promote 308 = .ok (.iadd, 1) := by decide +kernel
theorem dX7_promote_309 : decode cX7_promote 309 = .ok (.iaload, 1) := by decide +kernel
theorem dX7_promote_310 : decode cX7_promote 310 = .ok (.iastore, 1) := by decide +kernel
theorem dX7_promote_311 : decode cX7_promote 311 = .ok (.aload_n 0, 1) := by decide +kernel
theorem dX7_promote_312 : decode cX7_promote 312 = .ok (.getfield 7, 3) := by decide +kernel
theorem dX7_promote_315 : decode cX7_promote 315 = .ok (.sipush 2310, 3) := by decide +kernel
theorem dX7_promote_318 : decode cX7_promote 318 = .ok (.iload 4, 2) := by decide +kernel
theorem dX7_promote_320 : decode cX7_promote 320 = .ok (.iadd, 1) := by decide +kernel
theorem dX7_promote_321 : decode cX7_promote 321 = .ok (.iload_n 3, 1) := by decide +kernel
theorem dX7_promote_322 : decode cX7_promote 322 = .ok (.iconst 1, 1) := by decide +kernel
theorem dX7_promote_323 : decode cX7_promote 323 = .ok (.iadd, 1) := by decide +kernel
theorem dX7_promote_324 : decode cX7_promote 324 = .ok (.iastore, 1) := by decide +kernel
theorem dX7_promote_325 : decode cX7_promote 325 = .ok (.aload_n 0, 1) := by decide +kernel
theorem dX7_promote_326 : decode cX7_promote 326 = .ok (.getfield 7, 3) := by decide +kernel
theorem dX7_promote_329 : decode cX7_promote 329 = .ok (.sipush 2388, 3) := by decide +kernel
theorem dX7_promote_332 : decode cX7_promote 332 = .ok (.iload_n 1, 1) := by decide +kernel
theorem dX7_promote_333 : decode cX7_promote 333 = .ok (.iadd, 1) := by decide +kernel
theorem dX7_promote_334 : decode cX7_promote 334 = .ok (.iaload, 1) := by decide +kernel
theorem dX7_promote_335 : decode cX7_promote 335 = .ok (.ireturn, 1) := by decide +kernel
theorem dX7_destroy_0 : decode cX7_destroy 0 = .ok (.aload_n 0, 1) := by decide +kernel
theorem dX7_destroy_1 : decode cX7_destroy 1 = .ok (.iload_n 1, 1) := by decide +kernel
theorem dX7_destroy_2 : decode cX7_destroy 2 = .ok (.invokevirtual 41, 3) := by decide +kernel
theorem dX7_destroy_5 : decode cX7_destroy 5 = .ok (.istore_n 2, 1) := by decide +kernel
theorem dX7_destroy_6 : decode cX7_destroy 6 = .ok (.aload_n 0, 1) := by decide +kernel
theorem dX7_destroy_7 : decode cX7_destroy 7 = .ok (.iload_n 2, 1) := by decide +kernel
theorem dX7_destroy_8 : decode cX7_destroy 8 = .ok (.iload_n 2, 1) := by decide +kernel
theorem dX7_destroy_9 : decode cX7_destroy 9 = .ok (.ifCond .eq 28, 3) := by decide +kernel
theorem dX7_destroy_12 : decode cX7_destroy 12 = .ok (.aload_n 0, 1) := by decide +kernel
theorem dX7_destroy_13 : decode cX7_destroy 13 = .ok (.getfield 7, 3) := by decide +kernel
theorem dX7_destroy_16 : decode cX7_destroy 16 = .ok (.sipush 2388, 3) := by decide +kernel
theorem dX7_destroy_19 : decode cX7_destroy 19 = .ok (.iload_n 1, 1) := by decide +kernel
theorem dX7_destroy_20 : decode cX7_destroy 20 = .ok (.iadd, 1) := by decide +kernel
theorem dX7_destroy_21 : decode cX7_destroy 21 = .ok (.iaload, 1) := by decide +kernel
theorem dX7_destroy_22 : decode cX7_destroy 22 = .ok (.ifCond .ne 15, 3) := by decide +kernel
theorem dX7_destroy_25 : decode cX7_destroy 25 = .ok (.aload_n 0, 1) := by decide +kernel
theorem dX7_destroy_26 : decode cX7_destroy 26 = .ok (.invokevirtual 102, 3) := by decide +kernel
theorem dX7_destroy_29 : decode cX7_destroy 29 = .ok (.iconst 1, 1) := by decide +kernel
theorem dX7_destroy_30 : decode cX7_destroy 30 = .ok (.if_icmp .le 7, 3) := by decide +kernel
theorem dX7_destroy_33 : decode cX7_destroy 33 = .ok (.iconst 1, 1) := by decide +kernel
theorem dX7_destroy_34 : decode cX7_destroy 34 = .ok (.goto 4, 3) := by decide +kernel
theorem dX7_destroy_37 : decode cX7_destroy 37 = .ok (.iconst 0, 1) := by decide +kernel
theorem dX7_destroy_38 : decode cX7_destroy 38 = .ok (.invokevirtual 59, 3) := by decide +kernel
theorem dX7_destroy_41 : decode cX7_destroy 41 = .ok (.ifCond .ne 5, 3) := by decide +kernel
theorem dX7_destroy_44 : decode cX7_destroy 44 = .ok (.iconst 0, 1) := by decide +kernel
theorem dX7_destroy_45 : decode cX7_destroy 45 = .ok (.ireturn, 1) := by decide +kernel
theorem dX7_destroy_46 : decode cX7_destroy 46 = .ok (.aload_n 0, 1) := by decide +kernel
theorem dX7_destroy_47 : decode cX7_destroy 47 = .ok (.getfield 7, 3) := by decide +kernel
theorem dX7_destroy_50 : decode cX7_destroy 50 = .ok (.sipush 2304, 3) := by decide +kernel
theorem dX7_destroy_53 : decode cX7_destroy 53 = .ok (.iload_n 1, 1) := by decide +kernel
theorem dX7_destroy_54 : decode cX7_destroy 54 = .ok (.iadd, 1) := by decide +kernel
theorem dX7_destroy_55 : decode cX7_destroy 55 = .ok (.iconst 0, 1) := by decide +kernel
theorem dX7_destroy_56 : decode cX7_destroy 56 = .ok (.iastore, 1) := by decide +kernel
theorem dX7_destroy_57 : decode cX7_destroy 57 = .ok (.aload_n 0, 1) := by decide +kernel
theorem dX7_destroy_58 : decode cX7_destroy 58 = .ok (.getfield 7, 3) := by decide +kernel
theorem dX7_destroy_61 : decode cX7_destroy 61 = .ok (.sipush 2310, 3) := by decide +kernel
theorem dX7_destroy_64 : decode cX7_destroy 64 = .ok (.iload_n 1, 1) := by decide +kernel
theorem dX7_destroy_65 : decode cX7_destroy 65 = .ok (.iadd, 1) := by decide +kernel
theorem dX7_destroy_66 : decode cX7_destroy 66 = .ok (.iconst 0, 1) := by decide +kernel
theorem dX7_destroy_67 : decode cX7_destroy 67 = .ok (.iastore, 1) := by decide +kernel
theorem dX7_destroy_68 : decode cX7_destroy 68 = .ok (.iconst 0, 1) := by decide +kernel
theorem dX7_destroy_69 : decode cX7_destroy 69 = .ok (.istore_n 3, 1) := by decide +kernel
theorem dX7_destroy_70 : decode cX7_destroy 70 = .ok (.iload_n 3, 1) := by decide +kernel
theorem dX7_destroy_71 : decode cX7_destroy 71 = .ok (.sipush 128, 3) := by decide +kernel
theorem dX7_destroy_74 : decode cX7_destroy 74 = .ok (.if_icmp .ge 24, 3) := by decide +kernel
theorem dX7_destroy_77 : decode cX7_destroy 77 = .ok (.aload_n 0, 1) := by decide +kernel
theorem dX7_destroy_78 : decode cX7_destroy 78 = .ok (.getfield 7, 3) := by decide +kernel
theorem dX7_destroy_81 : decode cX7_destroy 81 = .ok (.iconst 0, 1) := by decide +kernel
theorem dX7_destroy_82 : decode cX7_destroy 82 = .ok (.sipush 128, 3) := by decide +kernel
theorem dX7_destroy_85 : decode cX7_destroy 85 = .ok (.iload_n 1, 1) := by decide +kernel
theorem dX7_destroy_86 : decode cX7_destroy 86 = .ok (.imul, 1) := by decide +kernel
theorem dX7_destroy_87 : decode cX7_destroy 87 = .ok (.iadd, 1) := by decide +kernel
theorem dX7_destroy_88 : decode cX7_destroy 88 = .ok (.iload_n 3, 1) := by decide +kernel
theorem dX7_destroy_89 : decode cX7_destroy 89 = .ok (.iadd, 1) := by decide +kernel
theorem dX7_destroy_90 : decode cX7_destroy 90 = .ok (.iconst 0, 1) := by decide +kernel
theorem dX7_destroy_91 : decode cX7_destroy 91 = .ok (.iastore, 1) := by decide +kernel
theorem dX7_destroy_92 : decode cX7_destroy 92 = .ok (.iinc 3 1, 3) := by decide +kernel
theorem dX7_destroy_95 : decode cX7_destroy 95 = .ok (.goto (-25), 3) := by decide +kernel
theorem dX7_destroy_98 : decode cX7_destroy 98 = .ok (.aload_n 0, 1) := by decide +kernel
theorem dX7_destroy_99 : decode cX7_destroy 99 = .ok (.invokevirtual 56, 3) := by decide +kernel
theorem dX7_destroy_102 : decode cX7_destroy 102 = .ok (.ireturn, 1) := by decide +kernel
theorem dX7_blocksIn_0 : decode cX7_blocksIn 0 = .ok (.iconst 0, 1) := by decide +kernel
theorem dX7_blocksIn_1 : decode cX7_blocksIn 1 = .ok (.istore_n 3, 1) := by decide +kernel
theorem dX7_blocksIn_2 : decode cX7_blocksIn 2 = .ok (.iload_n 3, 1) := by decide +kernel
theorem dX7_blocksIn_3 : decode cX7_blocksIn 3 = .ok (.sipush 128, 3) := by decide +kernel
theorem dX7_blocksIn_6 : decode cX7_blocksIn 6 = .ok (.if_icmp .ge 16, 3) := by decide +kernel
theorem dX7_blocksIn_9 : decode cX7_blocksIn 9 = .ok (.aload_n 0, 1) := by decide +kernel
theorem dX7_blocksIn_10 : decode cX7_blocksIn 10 = .ok (.getfield 16, 3) := by decide +kernel
theorem dX7_blocksIn_13 : decode cX7_blocksIn 13 = .ok (.iload_n 3, 1) := by decide +kernel
theorem dX7_blocksIn_14 : decode cX7_blocksIn 14 = .ok (.iconst 0, 1) := by decide +kernel
theorem dX7_blocksIn_15 : decode cX7_blocksIn 15 = .ok (.iastore, 1) := by decide +kernel
theorem dX7_blocksIn_16 : decode cX7_blocksIn 16 = .ok (.iinc 3 1, 3) := by decide +kernel
theorem dX7_blocksIn_19 : decode cX7_blocksIn 19 = .ok (.goto (-17), 3) := by decide +kernel
theorem dX7_blocksIn_22 : decode cX7_blocksIn 22 = .ok (.iload_n 1, 1) := by decide +kernel
theorem dX7_blocksIn_23 : decode cX7_blocksIn 23 = .ok (.istore_n 3, 1) := by decide +kernel
theorem dX7_blocksIn_24 : decode cX7_blocksIn 24 = .ok (.iload_n 3, 1) := by decide +kernel
theorem dX7_blocksIn_25 : decode cX7_blocksIn 25 = .ok (.iload_n 1, 1) := by decide +kernel
theorem dX7_blocksIn_26 : decode cX7_blocksIn 26 = .ok (.sipush 128, 3) := by decide +kernel
theorem dX7_blocksIn_29 : decode cX7_blocksIn 29 = .ok (.iadd, 1) := by decide +kernel
theorem dX7_blocksIn_30 : decode cX7_blocksIn 30 = .ok (.if_icmp .ge 35, 3) := by decide +kernel
theorem dX7_blocksIn_33 : decode cX7_blocksIn 33 = .ok (.aload_n 0, 1) := by decide +kernel
theorem dX7_blocksIn_34 : decode cX7_blocksIn 34 = .ok (.getfield 7, 3) := by decide +kernel
theorem dX7_blocksIn_37 : decode cX7_blocksIn 37 = .ok (.iload_n 3, 1) := by decide +kernel
theorem dX7_blocksIn_38 : decode cX7_blocksIn 38 = .ok (.iaload, 1) := by decide +kernel
theorem dX7_blocksIn_39 : decode cX7_blocksIn 39 = .ok (.ifCond .le 20, 3) := by decide +kernel
theorem dX7_blocksIn_42 : decode cX7_blocksIn 42 = .ok (.aload_n 0, 1) := by decide +kernel
theorem dX7_blocksIn_43 : decode cX7_blocksIn 43 = .ok (.getfield 16, 3) := by decide +kernel
theorem dX7_blocksIn_46 : decode cX7_blocksIn 46 = .ok (.aload_n 0, 1) := by decide +kernel
theorem dX7_blocksIn_47 : decode cX7_blocksIn 47 = .ok (.getfield 7, 3) := by decide +kernel
theorem dX7_blocksIn_50 : decode cX7_blocksIn 50 = .ok (.iload_n 3, 1) := by decide +kernel
theorem dX7_blocksIn_51 : decode cX7_blocksIn 51 = .ok (.iaload, 1) := by decide +kernel
theorem dX7_blocksIn_52 : decode cX7_blocksIn 52 = .ok (.iconst 1, 1) := by decide +kernel
theorem dX7_blocksIn_53 : decode cX7_blocksIn 53 = .ok (.isub, 1) := by decide +kernel
theorem dX7_blocksIn_54 : decode cX7_blocksIn 54 = .ok (.dup2, 1) := by decide +kernel
theorem dX7_blocksIn_55 : decode cX7_blocksIn 55 = .ok (.iaload, 1) := by decide +kernel
theorem dX7_blocksIn_56 : decode cX7_blocksIn 56 = .ok (.iconst 1, 1) := by decide +kernel
theorem dX7_blocksIn_57 : decode cX7_blocksIn 57 = .ok (.iadd, 1) := by decide +kernel
theorem dX7_blocksIn_58 : decode cX7_blocksIn 58 = .ok (.iastore, 1) := by decide +kernel
theorem dX7_blocksIn_59 : decode cX7_blocksIn 59 = .ok (.iinc 3 1, 3) := by decide +kernel
theorem dX7_blocksIn_62 : decode cX7_blocksIn 62 = .ok (.goto (-38), 3) := by decide +kernel
theorem dX7_blocksIn_65 : decode cX7_blocksIn 65 = .ok (.iconst 0, 1) := by decide +kernel
theorem dX7_blocksIn_66 : decode cX7_blocksIn 66 = .ok (.istore_n 3, 1) := by decide +kernel
theorem dX7_blocksIn_67 : decode cX7_blocksIn 67 = .ok (.iconst 0, 1) := by decide +kernel
theorem dX7_blocksIn_68 : decode cX7_blocksIn 68 = .ok (.istore 4, 2) := by decide +kernel
theorem dX7_blocksIn_70 : decode cX7_blocksIn 70 = .ok (.iload 4, 2) := by decide +kernel
theorem dX7_blocksIn_72 : decode cX7_blocksIn 72 = .ok (.sipush 128, 3) := by decide +kernel
theorem dX7_blocksIn_75 : decode cX7_blocksIn 75 = .ok (.if_icmp .ge 52, 3) := by decide +kernel
theorem dX7_blocksIn_78 : decode cX7_blocksIn 78 = .ok (.iload_n 3, 1) := by decide +kernel
theorem dX7_blocksIn_79 : decode cX7_blocksIn 79 = .ok (.aload_n 0, 1) := by decide +kernel
theorem dX7_blocksIn_80 : decode cX7_blocksIn 80 = .ok (.getfield 16, 3) := by decide +kernel
theorem dX7_blocksIn_83 : decode cX7_blocksIn 83 = .ok (.iload 4, 2) := by decide +kernel
theorem dX7_blocksIn_85 : decode cX7_blocksIn 85 = .ok (.iaload, 1) := by decide +kernel
theorem dX7_blocksIn_86 : decode cX7_blocksIn 86 = .ok (.ifCond .le 32, 3) := by decide +kernel
theorem dX7_blocksIn_89 : decode cX7_blocksIn 89 = .ok (.iload_n 2, 1) := by decide +kernel
theorem dX7_blocksIn_90 : decode cX7_blocksIn 90 = .ok (.ifCond .eq 24, 3) := by decide +kernel
theorem dX7_blocksIn_93 : decode cX7_blocksIn 93 = .ok (.aload_n 0, 1) := by decide +kernel
theorem dX7_blocksIn_94 : decode cX7_blocksIn 94 = .ok (.getfield 16, 3) := by decide +kernel
theorem dX7_blocksIn_97 : decode cX7_blocksIn 97 = .ok (.iload 4, 2) := by decide +kernel
theorem dX7_blocksIn_99 : decode cX7_blocksIn 99 = .ok (.iaload, 1) := by decide +kernel
theorem dX7_blocksIn_100 : decode cX7_blocksIn 100 = .ok (.aload_n 0, 1) := by decide +kernel
theorem dX7_blocksIn_101 : decode cX7_blocksIn 101 = .ok (.getfield 7, 3) := by decide +kernel
theorem dX7_blocksIn_104 : decode cX7_blocksIn 104 = .ok (.sipush 2814, 3) := by decide +kernel
theorem dX7_blocksIn_107 : decode cX7_blocksIn 107 = .ok (.iload 4, 2) := by decide +kernel
theorem dX7_blocksIn_109 : decode cX7_blocksIn 109 = .ok (.iadd, 1) := by decide +kernel
theorem dX7_blocksIn_110 : decode cX7_blocksIn 110 = .ok (.iaload, 1) := by decide +kernel
theorem dX7_blocksIn_111 : decode cX7_blocksIn 111 = .ok (.if_icmp .ne 7, 3) := by decide +kernel
theorem dX7_blocksIn_114 : decode cX7_blocksIn 114 = .ok (.iconst 1, 1) := by decide +kernel
theorem dX7_blocksIn_115 : decode cX7_blocksIn 115 = .ok (.goto 4, 3) := by decide +kernel
theorem dX7_blocksIn_118 : decode cX7_blocksIn 118 = .ok (.iconst 0, 1) := by decide +kernel
theorem dX7_blocksIn_119 : decode cX7_blocksIn 119 = .ok (.iadd, 1) := by decide +kernel
theorem dX7_blocksIn_120 : decode cX7_blocksIn 120 = .ok (.istore_n 3, 1) := by decide +kernel
theorem dX7_blocksIn_121 : decode cX7_blocksIn 121 = .ok (.iinc 4 1, 3) := by decide +kernel
theorem dX7_blocksIn_124 : decode cX7_blocksIn 124 = .ok (.goto (-54), 3) := by decide +kernel
theorem dX7_blocksIn_127 : decode cX7_blocksIn 127 = .ok (.iload_n 3, 1) := by decide +kernel
theorem dX7_blocksIn_128 : decode cX7_blocksIn 128 = .ok (.ireturn, 1) := by decide +kernel
theorem dX7_referenced_0 : decode cX7_referenced 0 = .ok (.aload_n 0, 1) := by decide +kernel
theorem dX7_referenced_1 : decode cX7_referenced 1 = .ok (.aload_n 0, 1) := by decide +kernel
theorem dX7_referenced_2 : decode cX7_referenced 2 = .ok (.iload_n 1, 1) := by decide +kernel
theorem dX7_referenced_3 : decode cX7_referenced 3 = .ok (.invokevirtual 41, 3) := by decide +kernel
theorem dX7_referenced_6 : decode cX7_referenced 6 = .ok (.iconst 1, 1) := by decide +kernel
theorem dX7_referenced_7 : decode cX7_referenced 7 = .ok (.invokevirtual 59, 3) := by decide +kernel
theorem dX7_referenced_10 : decode cX7_referenced 10 = .ok (.ifCond .eq 18, 3) := by decide +kernel
theorem dX7_referenced_13 : decode cX7_referenced 13 = .ok (.aload_n 0, 1) := by decide +kernel
theorem dX7_referenced_14 : decode cX7_referenced 14 = .ok (.iconst 0, 1) := by decide +kernel
theorem dX7_referenced_15 : decode cX7_referenced 15 = .ok (.sipush 128, 3) := by decide +kernel
theorem dX7_referenced_18 : decode cX7_referenced 18 = .ok (.iload_n 1, 1) := by decide +kernel
theorem dX7_referenced_19 : decode cX7_referenced 19 = .ok (.imul, 1) := by decide +kernel
theorem dX7_referenced_20 : decode cX7_referenced 20 = .ok (.iadd, 1) := by decide +kernel
theorem dX7_referenced_21 : decode cX7_referenced 21 = .ok (.iconst 0, 1) := by decide +kernel
theorem dX7_referenced_22 : decode cX7_referenced 22 = .ok (.invokevirtual 105, 3) := by decide +kernel
theorem dX7_referenced_25 : decode cX7_referenced 25 = .ok (.goto 4, 3) := by decide +kernel
theorem dX7_referenced_28 : decode cX7_referenced 28 = .ok (.iconst 0, 1) := by decide +kernel
theorem dX7_referenced_29 : decode cX7_referenced 29 = .ok (.ireturn, 1) := by decide +kernel
theorem dX7_unique_0 : decode cX7_unique 0 = .ok (.aload_n 0, 1) := by decide +kernel
theorem dX7_unique_1 : decode cX7_unique 1 = .ok (.aload_n 0, 1) := by decide +kernel
theorem dX7_unique_2 : decode cX7_unique 2 = .ok (.iload_n 1, 1) := by decide +kernel
theorem dX7_unique_3 : decode cX7_unique 3 = .ok (.invokevirtual 41, 3) := by decide +kernel
theorem dX7_unique_6 : decode cX7_unique 6 = .ok (.iconst 1, 1) := by decide +kernel
theorem dX7_unique_7 : decode cX7_unique 7 = .ok (.invokevirtual 59, 3) := by decide +kernel
theorem dX7_unique_10 : decode cX7_unique 10 = .ok (.ifCond .eq 18, 3) := by decide +kernel
theorem dX7_unique_13 : decode cX7_unique 13 = .ok (.aload_n 0, 1) := by decide +kernel
theorem dX7_unique_14 : decode cX7_unique 14 = .ok (.iconst 0, 1) := by decide +kernel
theorem dX7_unique_15 : decode cX7_unique 15 = .ok (.sipush 128, 3) := by decide +kernel
theorem dX7_unique_18 : decode cX7_unique 18 = .ok (.iload_n 1, 1) := by decide +kernel
theorem dX7_unique_19 : decode cX7_unique 19 = .ok (.imul, 1) := by decide +kernel
theorem dX7_unique_20 : decode cX7_unique 20 = .ok (.iadd, 1) := by decide +kernel
theorem dX7_unique_21 : decode cX7_unique 21 = .ok (.iconst 1, 1) := by decide +kernel
theorem dX7_unique_22 : decode cX7_unique 22 = .ok (.invokevirtual 105, 3) := by decide +kernel
theorem dX7_unique_25 : decode cX7_unique 25 = .ok (.goto 4, 3) := by decide +kernel
theorem dX7_unique_28 : decode cX7_unique 28 = .ok (.iconst 0, 1) := by decide +kernel
theorem dX7_unique_29 : decode cX7_unique 29 = .ok (.ireturn, 1) := by decide +kernel
theorem dX7_uniqueOfSnapshot_0 : decode cX7_uniqueOfSnapshot 0 = .ok (.aload_n 0, 1) := by decide +kernel
theorem dX7_uniqueOfSnapshot_1 : decode cX7_uniqueOfSnapshot 1 = .ok (.iload_n 1, 1) := by decide +kernel
theorem dX7_uniqueOfSnapshot_2 : decode cX7_uniqueOfSnapshot 2 = .ok (.iconst 0, 1) := by decide +kernel
theorem dX7_uniqueOfSnapshot_3 : decode cX7_uniqueOfSnapshot 3 = .ok (.iconst 0, 1) := by decide +kernel
theorem dX7_uniqueOfSnapshot_4 : decode cX7_uniqueOfSnapshot 4 = .ok (.invokevirtual 86, 3) := by decide +kernel
theorem dX7_uniqueOfSnapshot_7 : decode cX7_uniqueOfSnapshot 7 = .ok (.ifCond .eq 24, 3) := by decide +kernel
theorem dX7_uniqueOfSnapshot_10 : decode cX7_uniqueOfSnapshot 10 = .ok (.aload_n 0, 1) := by decide +kernel
theorem dX7_uniqueOfSnapshot_11 : decode cX7_uniqueOfSnapshot 11 = .ok (.sipush 768, 3) := by decide +kernel
theorem dX7_uniqueOfSnapshot_14 : decode cX7_uniqueOfSnapshot 14 = .ok (.sipush 128, 3) := by decide +kernel
theorem dX7_uniqueOfSnapshot_17 : decode cX7_uniqueOfSnapshot 17 = .ok (.aload_n 0, 1) := by decide +kernel
theorem dX7_uniqueOfSnapshot_18 : decode cX7_uniqueOfSnapshot 18 = .ok (.iload_n 1, 1) := by decide +kernel
theorem dX7_uniqueOfSnapshot_19 : decode cX7_uniqueOfSnapshot 19 = .ok (.invokevirtual 83, 3) := by decide +kernel
theorem dX7_uniqueOfSnapshot_22 : decode cX7_uniqueOfSnapshot 22 = .ok (.imul, 1) := by decide +kernel
theorem dX7_uniqueOfSnapshot_23 : decode cX7_uniqueOfSnapshot 23 = .ok (.iadd, 1) := by decide +kernel
theorem dX7_uniqueOfSnapshot_24 : decode cX7_uniqueOfSnapshot 24 = .ok (.iconst 1, 1) := by decide +kernel
theorem dX7_uniqueOfSnapshot_25 : decode cX7_uniqueOfSnapshot 25 = .ok (.invokevirtual 105, 3) := by decide +kernel
theorem dX7_uniqueOfSnapshot_28 : decode cX7_uniqueOfSnapshot 28 = .ok (.goto 4, 3) := by decide +kernel
theorem dX7_uniqueOfSnapshot_31 : decode cX7_uniqueOfSnapshot 31 = .ok (.iconst 0, 1) := by decide +kernel
theorem dX7_uniqueOfSnapshot_32 : decode cX7_uniqueOfSnapshot 32 = .ok (.ireturn, 1) := by decide +kernel
theorem dX7_newer_0 : decode cX7_newer 0 = .ok (.iconst 0, 1) := by decide +kernel
theorem dX7_newer_1 : decode cX7_newer 1 = .ok (.istore_n 3, 1) := by decide +kernel
theorem dX7_newer_2 : decode cX7_newer 2 = .ok (.aload_n 0, 1) := by decide +kernel
theorem dX7_newer_3 : decode cX7_newer 3 = .ok (.aload_n 0, 1) := by decide +kernel
theorem dX7_newer_4 : decode cX7_newer 4 = .ok (.iload_n 1, 1) := by decide +kernel
theorem dX7_newer_5 : decode cX7_newer 5 = .ok (.invokevirtual 41, 3) := by decide +kernel
theorem dX7_newer_8 : decode cX7_newer 8 = .ok (.iconst 1, 1) := by decide +kernel
theorem dX7_newer_9 : decode cX7_newer 9 = .ok (.invokevirtual 59, 3) := by decide +kernel
theorem dX7_newer_12 : decode cX7_newer 12 = .ok (.istore 4, 2) := by decide +kernel
theorem dX7_newer_14 : decode cX7_newer 14 = .ok (.iconst 0, 1) := by decide +kernel
theorem dX7_newer_15 : decode cX7_newer 15 = .ok (.istore 5, 2) := by decide +kernel
theorem dX7_newer_17 : decode cX7_newer 17 = .ok (.iload 5, 2) := by decide +kernel
theorem dX7_newer_19 : decode cX7_newer 19 = .ok (.sipush 128, 3) := by decide +kernel
theorem dX7_newer_22 : decode cX7_newer 22 = .ok (.if_icmp .ge 61, 3) := by decide +kernel
theorem dX7_newer_25 : decode cX7_newer 25 = .ok (.iload 4, 2) := by decide +kernel
theorem dX7_newer_27 : decode cX7_newer 27 = .ok (.ifCond .eq 56, 3) := by decide +kernel
theorem dX7_newer_30 : decode cX7_newer 30 = .ok (.aload_n 0, 1) := by decide +kernel
theorem dX7_newer_31 : decode cX7_newer 31 = .ok (.getfield 7, 3) := by decide +kernel
theorem dX7_newer_34 : decode cX7_newer 34 = .ok (.iconst 0, 1) := by decide +kernel
theorem dX7_newer_35 : decode cX7_newer 35 = .ok (.sipush 128, 3) := by decide +kernel
theorem dX7_newer_38 : decode cX7_newer 38 = .ok (.iload_n 1, 1) := by decide +kernel
theorem dX7_newer_39 : decode cX7_newer 39 = .ok (.imul, 1) := by decide +kernel
theorem dX7_newer_40 : decode cX7_newer 40 = .ok (.iadd, 1) := by decide +kernel
theorem dX7_newer_41 : decode cX7_newer 41 = .ok (.iload 5, 2) := by decide +kernel
theorem dX7_newer_43 : decode cX7_newer 43 = .ok (.iadd, 1) := by decide +kernel
theorem dX7_newer_44 : decode cX7_newer 44 = .ok (.iaload, 1) := by decide +kernel
theorem dX7_newer_45 : decode cX7_newer 45 = .ok (.iconst 1, 1) := by decide +kernel
theorem dX7_newer_46 : decode cX7_newer 46 = .ok (.isub, 1) := by decide +kernel
theorem dX7_newer_47 : decode cX7_newer 47 = .ok (.istore 6, 2) := by decide +kernel
theorem dX7_newer_49 : decode cX7_newer 49 = .ok (.iload_n 3, 1) := by decide +kernel
theorem dX7_newer_50 : decode cX7_newer 50 = .ok (.iload 6, 2) := by decide +kernel
theorem dX7_newer_52 : decode cX7_newer 52 = .ok (.ifCond .lt 22, 3) := by decide +kernel
theorem dX7_newer_55 : decode cX7_newer 55 = .ok (.aload_n 0, 1) := by decide +kernel
theorem dX7_newer_56 : decode cX7_newer 56 = .ok (.getfield 7, 3) := by decide +kernel
theorem dX7_newer_59 : decode cX7_newer 59 = .ok (.sipush 2558, 3) := by decide +kernel
theorem dX7_newer_62 : decode cX7_newer 62 = .ok (.iload 6, 2) := by decide +kernel
theorem dX7_newer_64 : decode cX7_newer 64 = .ok (.iadd, 1) := by decide +kernel
theorem dX7_newer_65 : decode cX7_newer 65 = .ok (.iaload, 1) := by decide +kernel
theorem dX7_newer_66 : decode cX7_newer 66 = .ok (.iload_n 2, 1) := by decide +kernel
theorem dX7_newer_67 : decode cX7_newer 67 = .ok (.if_icmp .le 7, 3) := by decide +kernel
theorem dX7_newer_70 : decode cX7_newer 70 = .ok (.iconst 1, 1) := by decide +kernel
theorem dX7_newer_71 : decode cX7_newer 71 = .ok (.goto 4, 3) := by decide +kernel
theorem dX7_newer_74 : decode cX7_newer 74 = .ok (.iconst 0, 1) := by decide +kernel
theorem dX7_newer_75 : decode cX7_newer 75 = .ok (.iadd, 1) := by decide +kernel
theorem dX7_newer_76 : decode cX7_newer 76 = .ok (.istore_n 3, 1) := by decide +kernel
theorem dX7_newer_77 : decode cX7_newer 77 = .ok (.iinc 5 1, 3) := by decide +kernel
theorem dX7_newer_80 : decode cX7_newer 80 = .ok (.goto (-63), 3) := by decide +kernel
theorem dX7_newer_83 : decode cX7_newer 83 = .ok (.iload_n 3, 1) := by decide +kernel
theorem dX7_newer_84 : decode cX7_newer 84 = .ok (.ireturn, 1) := by decide +kernel
theorem dX7_birth_0 : decode cX7_birth 0 = .ok (.iload_n 1, 1) := by decide +kernel
theorem dX7_birth_1 : decode cX7_birth 1 = .ok (.iconst 0, 1) := by decide +kernel
theorem dX7_birth_2 : decode cX7_birth 2 = .ok (.bipush 127, 2) := by decide +kernel
theorem dX7_birth_4 : decode cX7_birth 4 = .ok (.invokestatic 26, 3) := by decide +kernel
theorem dX7_birth_7 : decode cX7_birth 7 = .ok (.istore_n 2, 1) := by decide +kernel
theorem dX7_birth_8 : decode cX7_birth 8 = .ok (.aload_n 0, 1) := by decide +kernel
theorem dX7_birth_9 : decode cX7_birth 9 = .ok (.iload_n 2, 1) := by decide +kernel
theorem dX7_birth_10 : decode cX7_birth 10 = .ok (.iload_n 2, 1) := by decide +kernel
theorem dX7_birth_11 : decode cX7_birth 11 = .ok (.ifCond .eq 15, 3) := by decide +kernel
theorem dX7_birth_14 : decode cX7_birth 14 = .ok (.aload_n 0, 1) := by decide +kernel
theorem dX7_birth_15 : decode cX7_birth 15 = .ok (.iload_n 1, 1) := by decide +kernel
theorem dX7_birth_16 : decode cX7_birth 16 = .ok (.invokevirtual 70, 3) := by decide +kernel
theorem dX7_birth_19 : decode cX7_birth 19 = .ok (.ifCond .eq 7, 3) := by decide +kernel
theorem dX7_birth_22 : decode cX7_birth 22 = .ok (.iconst 1, 1) := by decide +kernel
theorem dX7_birth_23 : decode cX7_birth 23 = .ok (.goto 4, 3) := by decide +kernel
theorem dX7_birth_26 : decode cX7_birth 26 = .ok (.iconst 0, 1) := by decide +kernel
theorem dX7_birth_27 : decode cX7_birth 27 = .ok (.invokevirtual 59, 3) := by decide +kernel
theorem dX7_birth_30 : decode cX7_birth 30 = .ok (.ifCond .eq 16, 3) := by decide +kernel
theorem dX7_birth_33 : decode cX7_birth 33 = .ok (.aload_n 0, 1) := by decide +kernel
theorem dX7_birth_34 : decode cX7_birth 34 = .ok (.getfield 7, 3) := by decide +kernel
theorem dX7_birth_37 : decode cX7_birth 37 = .ok (.sipush 2558, 3) := by decide +kernel
theorem dX7_birth_40 : decode cX7_birth 40 = .ok (.iload_n 1, 1) := by decide +kernel
theorem dX7_birth_41 : decode cX7_birth 41 = .ok (.iadd, 1) := by decide +kernel
theorem dX7_birth_42 : decode cX7_birth 42 = .ok (.iaload, 1) := by decide +kernel
theorem dX7_birth_43 : decode cX7_birth 43 = .ok (.goto 4, 3) := by decide +kernel
theorem dX7_birth_46 : decode cX7_birth 46 = .ok (.iconst 0, 1) := by decide +kernel
theorem dX7_birth_47 : decode cX7_birth 47 = .ok (.ireturn, 1) := by decide +kernel
theorem dX7_references_0 : decode cX7_references 0 = .ok (.aload_n 0, 1) := by decide +kernel
theorem dX7_references_1 : decode cX7_references 1 = .ok (.iload_n 1, 1) := by decide +kernel
theorem dX7_references_2 : decode cX7_references 2 = .ok (.iconst 0, 1) := by decide +kernel
theorem dX7_references_3 : decode cX7_references 3 = .ok (.bipush 127, 2) := by decide +kernel
theorem dX7_references_5 : decode cX7_references 5 = .ok (.invokestatic 26, 3) := by decide +kernel
theorem dX7_references_8 : decode cX7_references 8 = .ok (.iconst 1, 1) := by decide +kernel
theorem dX7_references_9 : decode cX7_references 9 = .ok (.invokevirtual 59, 3) := by decide +kernel
theorem dX7_references_12 : decode cX7_references 12 = .ok (.ifCond .eq 16, 3) := by decide +kernel
theorem dX7_references_15 : decode cX7_references 15 = .ok (.aload_n 0, 1) := by decide +kernel
theorem dX7_references_16 : decode cX7_references 16 = .ok (.getfield 7, 3) := by decide +kernel
theorem dX7_references_19 : decode cX7_references 19 = .ok (.sipush 2814, 3) := by decide +kernel
theorem dX7_references_22 : decode cX7_references 22 = .ok (.iload_n 1, 1) := by decide +kernel
theorem dX7_references_23 : decode cX7_references 23 = .ok (.iadd, 1) := by decide +kernel
theorem dX7_references_24 : decode cX7_references 24 = .ok (.iaload, 1) := by decide +kernel
theorem dX7_references_25 : decode cX7_references 25 = .ok (.goto 4, 3) := by decide +kernel
theorem dX7_references_28 : decode cX7_references 28 = .ok (.iconst 0, 1) := by decide +kernel
theorem dX7_references_29 : decode cX7_references 29 = .ok (.ireturn, 1) := by decide +kernel
theorem dX7_free_0 : decode cX7_free 0 = .ok (.aload_n 0, 1) := by decide +kernel
theorem dX7_free_1 : decode cX7_free 1 = .ok (.iconst 0, 1) := by decide +kernel
theorem dX7_free_2 : decode cX7_free 2 = .ok (.putfield 22, 3) := by decide +kernel
theorem dX7_free_5 : decode cX7_free 5 = .ok (.aload_n 0, 1) := by decide +kernel
theorem dX7_free_6 : decode cX7_free 6 = .ok (.iconst 0, 1) := by decide +kernel
theorem dX7_free_7 : decode cX7_free 7 = .ok (.sipush 128, 3) := by decide +kernel
theorem dX7_free_10 : decode cX7_free 10 = .ok (.invokevirtual 37, 3) := by decide +kernel
theorem dX7_free_13 : decode cX7_free 13 = .ok (.ireturn, 1) := by decide +kernel
theorem dX7_pending_0 : decode cX7_pending 0 = .ok (.aload_n 0, 1) := by decide +kernel
theorem dX7_pending_1 : decode cX7_pending 1 = .ok (.iconst 0, 1) := by decide +kernel
theorem dX7_pending_2 : decode cX7_pending 2 = .ok (.putfield 22, 3) := by decide +kernel
theorem dX7_pending_5 : decode cX7_pending 5 = .ok (.iconst 0, 1) := by decide +kernel
theorem dX7_pending_6 : decode cX7_pending 6 = .ok (.istore_n 1, 1) := by decide +kernel
theorem dX7_pending_7 : decode cX7_pending 7 = .ok (.iconst 0, 1) := by decide +kernel
theorem dX7_pending_8 : decode cX7_pending 8 = .ok (.istore_n 2, 1) := by decide +kernel
theorem dX7_pending_9 : decode cX7_pending 9 = .ok (.iload_n 2, 1) := by decide +kernel
theorem dX7_pending_10 : decode cX7_pending 10 = .ok (.sipush 128, 3) := by decide +kernel
theorem dX7_pending_13 : decode cX7_pending 13 = .ok (.if_icmp .ge 22, 3) := by decide +kernel
theorem dX7_pending_16 : decode cX7_pending 16 = .ok (.iload_n 1, 1) := by decide +kernel
theorem dX7_pending_17 : decode cX7_pending 17 = .ok (.aload_n 0, 1) := by decide +kernel
theorem dX7_pending_18 : decode cX7_pending 18 = .ok (.getfield 7, 3) := by decide +kernel
theorem dX7_pending_21 : decode cX7_pending 21 = .ok (.sipush 2686, 3) := by decide +kernel
theorem dX7_pending_24 : decode cX7_pending 24 = .ok (.iload_n 2, 1) := by decide +kernel
theorem dX7_pending_25 : decode cX7_pending 25 = .ok (.iadd, 1) := by decide +kernel
theorem dX7_pending_26 : decode cX7_pending 26 = .ok (.iaload, 1) := by decide +kernel
theorem dX7_pending_27 : decode cX7_pending 27 = .ok (.iadd, 1) := by decide +kernel
theorem dX7_pending_28 : decode cX7_pending 28 = .ok (.istore_n 1, 1) := by decide +kernel
theorem dX7_pending_29 : decode cX7_pending 29 = .ok (.iinc 2 1, 3) := by decide +kernel
theorem dX7_pending_32 : decode cX7_pending 32 = .ok (.goto (-23), 3) := by decide +kernel
theorem dX7_pending_35 : decode cX7_pending 35 = .ok (.iload_n 1, 1) := by decide +kernel
theorem dX7_pending_36 : decode cX7_pending 36 = .ok (.ireturn, 1) := by decide +kernel
theorem dX7_isRegion_0 : decode cX7_isRegion 0 = .ok (.aload_n 0, 1) := by decide +kernel
theorem dX7_isRegion_1 : decode cX7_isRegion 1 = .ok (.iload_n 1, 1) := by decide +kernel
theorem dX7_isRegion_2 : decode cX7_isRegion 2 = .ok (.iconst 0, 1) := by decide +kernel
theorem dX7_isRegion_3 : decode cX7_isRegion 3 = .ok (.iconst 3, 1) := by decide +kernel
theorem dX7_isRegion_4 : decode cX7_isRegion 4 = .ok (.invokestatic 26, 3) := by decide +kernel
theorem dX7_isRegion_7 : decode cX7_isRegion 7 = .ok (.iconst 1, 1) := by decide +kernel
theorem dX7_isRegion_8 : decode cX7_isRegion 8 = .ok (.invokevirtual 59, 3) := by decide +kernel
theorem dX7_isRegion_11 : decode cX7_isRegion 11 = .ok (.ireturn, 1) := by decide +kernel
theorem dX7_freeIn_0 : decode cX7_freeIn 0 = .ok (.aload_n 0, 1) := by decide +kernel
theorem dX7_freeIn_1 : decode cX7_freeIn 1 = .ok (.iload_n 1, 1) := by decide +kernel
theorem dX7_freeIn_2 : decode cX7_freeIn 2 = .ok (.invokevirtual 109, 3) := by decide +kernel
theorem dX7_freeIn_5 : decode cX7_freeIn 5 = .ok (.ifCond .eq 21, 3) := by decide +kernel
theorem dX7_freeIn_8 : decode cX7_freeIn 8 = .ok (.aload_n 0, 1) := by decide +kernel
theorem dX7_freeIn_9 : decode cX7_freeIn 9 = .ok (.bipush 32, 2) := by decide +kernel
theorem dX7_freeIn_11 : decode cX7_freeIn 11 = .ok (.iload_n 1, 1) := by decide +kernel
theorem dX7_freeIn_12 : decode cX7_freeIn 12 = .ok (.imul, 1) := by decide +kernel
theorem dX7_freeIn_13 : decode cX7_freeIn 13 = .ok (.bipush 32, 2) := by decide +kernel
theorem dX7_freeIn_15 : decode cX7_freeIn 15 = .ok (.iload_n 1, 1) := by decide +kernel
theorem dX7_freeIn_16 : decode cX7_freeIn 16 = .ok (.imul, 1) := by decide +kernel
theorem dX7_freeIn_17 : decode cX7_freeIn 17 = .ok (.bipush 32, 2) := by decide +kernel
theorem dX7_freeIn_19 : decode cX7_freeIn 19 = .ok (.iadd, 1) := by decide +kernel
theorem dX7_freeIn_20 : decode cX7_freeIn 20 = .ok (.invokevirtual 37, 3) := by decide +kernel
theorem dX7_freeIn_23 : decode cX7_freeIn 23 = .ok (.goto 4, 3) := by decide +kernel
theorem dX7_freeIn_26 : decode cX7_freeIn 26 = .ok (.iconst 0, 1) := by decide +kernel
theorem dX7_freeIn_27 : decode cX7_freeIn 27 = .ok (.ireturn, 1) := by decide +kernel
theorem dX7_logEntries_0 : decode cX7_logEntries 0 = .ok (.aload_n 0, 1) := by decide +kernel
theorem dX7_logEntries_1 : decode cX7_logEntries 1 = .ok (.iload_n 1, 1) := by decide +kernel
theorem dX7_logEntries_2 : decode cX7_logEntries 2 = .ok (.invokevirtual 109, 3) := by decide +kernel
theorem dX7_logEntries_5 : decode cX7_logEntries 5 = .ok (.ifCond .eq 16, 3) := by decide +kernel
theorem dX7_logEntries_8 : decode cX7_logEntries 8 = .ok (.aload_n 0, 1) := by decide +kernel
theorem dX7_logEntries_9 : decode cX7_logEntries 9 = .ok (.getfield 7, 3) := by decide +kernel
theorem dX7_logEntries_12 : decode cX7_logEntries 12 = .ok (.sipush 3390, 3) := by decide +kernel
theorem dX7_logEntries_15 : decode cX7_logEntries 15 = .ok (.iload_n 1, 1) := by decide +kernel
theorem dX7_logEntries_16 : decode cX7_logEntries 16 = .ok (.iadd, 1) := by decide +kernel
theorem dX7_logEntries_17 : decode cX7_logEntries 17 = .ok (.iaload, 1) := by decide +kernel
theorem dX7_logEntries_18 : decode cX7_logEntries 18 = .ok (.goto 4, 3) := by decide +kernel
theorem dX7_logEntries_21 : decode cX7_logEntries 21 = .ok (.iconst 0, 1) := by decide +kernel
theorem dX7_logEntries_22 : decode cX7_logEntries 22 = .ok (.ireturn, 1) := by decide +kernel
theorem dX7_isEntry_0 : decode cX7_isEntry 0 = .ok (.aload_n 0, 1) := by decide +kernel
theorem dX7_isEntry_1 : decode cX7_isEntry 1 = .ok (.iload_n 1, 1) := by decide +kernel
theorem dX7_isEntry_2 : decode cX7_isEntry 2 = .ok (.iconst 0, 1) := by decide +kernel
theorem dX7_isEntry_3 : decode cX7_isEntry 3 = .ok (.iconst 3, 1) := by decide +kernel
theorem dX7_isEntry_4 : decode cX7_isEntry 4 = .ok (.invokestatic 26, 3) := by decide +kernel
theorem dX7_isEntry_7 : decode cX7_isEntry 7 = .ok (.ifCond .eq 27, 3) := by decide +kernel
theorem dX7_isEntry_10 : decode cX7_isEntry 10 = .ok (.iload_n 2, 1) := by decide +kernel
theorem dX7_isEntry_11 : decode cX7_isEntry 11 = .ok (.iconst 0, 1) := by decide +kernel
theorem dX7_isEntry_12 : decode cX7_isEntry 12 = .ok (.aload_n 0, 1) := by decide +kernel
theorem dX7_isEntry_13 : decode cX7_isEntry 13 = .ok (.getfield 7, 3) := by decide +kernel
theorem dX7_isEntry_16 : decode cX7_isEntry 16 = .ok (.sipush 3390, 3) := by decide +kernel
theorem dX7_isEntry_19 : decode cX7_isEntry 19 = .ok (.iload_n 1, 1) := by decide +kernel
theorem dX7_isEntry_20 : decode cX7_isEntry 20 = .ok (.iadd, 1) := by decide +kernel
theorem dX7_isEntry_21 : decode cX7_isEntry 21 = .ok (.iaload, 1) := by decide +kernel
theorem dX7_isEntry_22 : decode cX7_isEntry 22 = .ok (.iconst 1, 1) := by decide +kernel
theorem dX7_isEntry_23 : decode cX7_isEntry 23 = .ok (.isub, 1) := by decide +kernel
theorem dX7_isEntry_24 : decode cX7_isEntry 24 = .ok (.invokestatic 26, 3) := by decide +kernel
theorem dX7_isEntry_27 : decode cX7_isEntry 27 = .ok (.ifCond .eq 7, 3) := by decide +kernel
theorem dX7_isEntry_30 : decode cX7_isEntry 30 = .ok (.iconst 1, 1) := by decide +kernel
theorem dX7_isEntry_31 : decode cX7_isEntry 31 = .ok (.goto 4, 3) := by decide +kernel
theorem dX7_isEntry_34 : decode cX7_isEntry 34 = .ok (.iconst 0, 1) := by decide +kernel
theorem dX7_isEntry_35 : decode cX7_isEntry 35 = .ok (.iconst 1, 1) := by decide +kernel
theorem dX7_isEntry_36 : decode cX7_isEntry 36 = .ok (.invokevirtual 59, 3) := by decide +kernel
theorem dX7_isEntry_39 : decode cX7_isEntry 39 = .ok (.ireturn, 1) := by decide +kernel
theorem dX7_runAt_0 : decode cX7_runAt 0 = .ok (.aload_n 0, 1) := by decide +kernel
theorem dX7_runAt_1 : decode cX7_runAt 1 = .ok (.iload_n 1, 1) := by decide +kernel
theorem dX7_runAt_2 : decode cX7_runAt 2 = .ok (.iload_n 2, 1) := by decide +kernel
theorem dX7_runAt_3 : decode cX7_runAt 3 = .ok (.invokevirtual 112, 3) := by decide +kernel
theorem dX7_runAt_6 : decode cX7_runAt 6 = .ok (.ifCond .ne 5, 3) := by decide +kernel
theorem dX7_runAt_9 : decode cX7_runAt 9 = .ok (.iconst 0, 1) := by decide +kernel
theorem dX7_runAt_10 : decode cX7_runAt 10 = .ok (.ireturn, 1) := by decide +kernel
theorem dX7_runAt_11 : decode cX7_runAt 11 = .ok (.aload_n 0, 1) := by decide +kernel
theorem dX7_runAt_12 : decode cX7_runAt 12 = .ok (.getfield 7, 3) := by decide +kernel
theorem dX7_runAt_15 : decode cX7_runAt 15 = .ok (.sipush 3070, 3) := by decide +kernel
theorem dX7_runAt_18 : decode cX7_runAt 18 = .ok (.bipush 80, 2) := by decide +kernel
theorem dX7_runAt_20 : decode cX7_runAt 20 = .ok (.iload_n 1, 1) := by decide +kernel
theorem dX7_runAt_21 : decode cX7_runAt 21 = .ok (.imul, 1) := by decide +kernel
theorem dX7_runAt_22 : decode cX7_runAt 22 = .ok (.iadd, 1) := by decide +kernel
theorem dX7_runAt_23 : decode cX7_runAt 23 = .ok (.iload_n 2, 1) := by decide +kernel
theorem dX7_runAt_24 : decode cX7_runAt 24 = .ok (.iadd, 1) := by decide +kernel
theorem dX7_runAt_25 : decode cX7_runAt 25 = .ok (.iaload, 1) := by decide +kernel
theorem dX7_runAt_26 : decode cX7_runAt 26 = .ok (.istore_n 3, 1) := by decide +kernel
theorem dX7_runAt_27 : decode cX7_runAt 27 = .ok (.iload_n 3, 1) := by decide +kernel
theorem dX7_runAt_28 : decode cX7_runAt 28 = .ok (.ifCond .ge 8, 3) := by decide +kernel
theorem dX7_runAt_31 : decode cX7_runAt 31 = .ok (.iload_n 3, 1) := by decide +kernel
theorem dX7_runAt_32 : decode cX7_runAt 32 = .ok (.ineg, 1) := by decide +kernel
theorem dX7_runAt_33 : decode cX7_runAt 33 = .ok (.goto 4, 3) := by decide +kernel
theorem dX7_runAt_36 : decode cX7_runAt 36 = .ok (.iload_n 3, 1) := by decide +kernel
theorem dX7_runAt_37 : decode cX7_runAt 37 = .ok (.ireturn, 1) := by decide +kernel
theorem dX7_allocates_0 : decode cX7_allocates 0 = .ok (.aload_n 0, 1) := by decide +kernel
theorem dX7_allocates_1 : decode cX7_allocates 1 = .ok (.iload_n 1, 1) := by decide +kernel
theorem dX7_allocates_2 : decode cX7_allocates 2 = .ok (.iload_n 2, 1) := by decide +kernel
theorem dX7_allocates_3 : decode cX7_allocates 3 = .ok (.invokevirtual 112, 3) := by decide +kernel
theorem dX7_allocates_6 : decode cX7_allocates 6 = .ok (.ifCond .eq 25, 3) := by decide +kernel
theorem dX7_allocates_9 : decode cX7_allocates 9 = .ok (.aload_n 0, 1) := by decide +kernel
theorem dX7_allocates_10 : decode cX7_allocates 10 = .ok (.getfield 7, 3) := by decide +kernel
theorem dX7_allocates_13 : decode cX7_allocates 13 = .ok (.sipush 3070, 3) := by decide +kernel
theorem dX7_allocates_16 : decode cX7_allocates 16 = .ok (.bipush 80, 2) := by decide +kernel
theorem dX7_allocates_18 : decode cX7_allocates 18 = .ok (.iload_n 1, 1) := by decide +kernel
theorem dX7_allocates_19 : decode cX7_allocates 19 = .ok (.imul, 1) := by decide +kernel
theorem dX7_allocates_20 : decode cX7_allocates 20 = .ok (.iadd, 1) := by decide +kernel
theorem dX7_allocates_21 : decode cX7_allocates 21 = .ok (.iload_n 2, 1) := by decide +kernel
theorem dX7_allocates_22 : decode cX7_allocates 22 = .ok (.iadd, 1) := by decide +kernel
theorem dX7_allocates_23 : decode cX7_allocates 23 = .ok (.iaload, 1) := by decide +kernel
theorem dX7_allocates_24 : decode cX7_allocates 24 = .ok (.ifCond .le 7, 3) := by decide +kernel
theorem dX7_allocates_27 : decode cX7_allocates 27 = .ok (.iconst 1, 1) := by decide +kernel
theorem dX7_allocates_28 : decode cX7_allocates 28 = .ok (.goto 4, 3) := by decide +kernel
theorem dX7_allocates_31 : decode cX7_allocates 31 = .ok (.iconst 0, 1) := by decide +kernel
theorem dX7_allocates_32 : decode cX7_allocates 32 = .ok (.ireturn, 1) := by decide +kernel
theorem dX7_replay_0 : decode cX7_replay 0 = .ok (.aload_n 0, 1) := by decide +kernel
theorem dX7_replay_1 : decode cX7_replay 1 = .ok (.iload_n 1, 1) := by decide +kernel
theorem dX7_replay_2 : decode cX7_replay 2 = .ok (.invokevirtual 109, 3) := by decide +kernel
theorem dX7_replay_5 : decode cX7_replay 5 = .ok (.ifCond .ne 5, 3) := by decide +kernel
theorem dX7_replay_8 : decode cX7_replay 8 = .ok (.iconst 0, 1) := by decide +kernel
theorem dX7_replay_9 : decode cX7_replay 9 = .ok (.ireturn, 1) := by decide +kernel
theorem dX7_replay_10 : decode cX7_replay 10 = .ok (.iconst 0, 1) := by decide +kernel
theorem dX7_replay_11 : decode cX7_replay 11 = .ok (.istore_n 2, 1) := by decide +kernel
theorem dX7_replay_12 : decode cX7_replay 12 = .ok (.iload_n 2, 1) := by decide +kernel
theorem dX7_replay_13 : decode cX7_replay 13 = .ok (.bipush 32, 2) := by decide +kernel
theorem dX7_replay_15 : decode cX7_replay 15 = .ok (.if_icmp .ge 16, 3) := by decide +kernel
theorem dX7_replay_18 : decode cX7_replay 18 = .ok (.aload_n 0, 1) := by decide +kernel
theorem dX7_replay_19 : decode cX7_replay 19 = .ok (.getfield 16, 3) := by decide +kernel
theorem dX7_replay_22 : decode cX7_replay 22 = .ok (.iload_n 2, 1) := by decide +kernel
theorem dX7_replay_23 : decode cX7_replay 23 = .ok (.iconst 0, 1) := by decide +kernel
theorem dX7_replay_24 : decode cX7_replay 24 = .ok (.iastore, 1) := by decide +kernel
theorem dX7_replay_25 : decode cX7_replay 25 = .ok (.iinc 2 1, 3) := by decide +kernel
theorem dX7_replay_28 : decode cX7_replay 28 = .ok (.goto (-16), 3) := by decide +kernel
theorem dX7_replay_31 : decode cX7_replay 31 = .ok (.iconst 0, 1) := by decide +kernel
theorem dX7_replay_32 : decode cX7_replay 32 = .ok (.istore_n 2, 1) := by decide +kernel
theorem dX7_replay_33 : decode cX7_replay 33 = .ok (.iload_n 2, 1) := by decide +kernel
theorem dX7_replay_34 : decode cX7_replay 34 = .ok (.aload_n 0, 1) := by decide +kernel
theorem dX7_replay_35 : decode cX7_replay 35 = .ok (.getfield 7, 3) := by decide +kernel
theorem dX7_replay_38 : decode cX7_replay 38 = .ok (.sipush 3390, 3) := by decide +kernel
theorem dX7_replay_41 : decode cX7_replay 41 = .ok (.iload_n 1, 1) := by decide +kernel
theorem dX7_replay_42 : decode cX7_replay 42 = .ok (.iadd, 1) := by decide +kernel
theorem dX7_replay_43 : decode cX7_replay 43 = .ok (.iaload, 1) := by decide +kernel
theorem dX7_replay_44 : decode cX7_replay 44 = .ok (.if_icmp .ge 83, 3) := by decide +kernel
theorem dX7_replay_47 : decode cX7_replay 47 = .ok (.aload_n 0, 1) := by decide +kernel
theorem dX7_replay_48 : decode cX7_replay 48 = .ok (.getfield 7, 3) := by decide +kernel
theorem dX7_replay_51 : decode cX7_replay 51 = .ok (.sipush 3070, 3) := by decide +kernel
theorem dX7_replay_54 : decode cX7_replay 54 = .ok (.bipush 80, 2) := by decide +kernel
theorem dX7_replay_56 : decode cX7_replay 56 = .ok (.iload_n 1, 1) := by decide +kernel
theorem dX7_replay_57 : decode cX7_replay 57 = .ok (.imul, 1) := by decide +kernel
theorem dX7_replay_58 : decode cX7_replay 58 = .ok (.iadd, 1) := by decide +kernel
theorem dX7_replay_59 : decode cX7_replay 59 = .ok (.iload_n 2, 1) := by decide +kernel
theorem dX7_replay_60 : decode cX7_replay 60 = .ok (.iadd, 1) := by decide +kernel
theorem dX7_replay_61 : decode cX7_replay 61 = .ok (.iaload, 1) := by decide +kernel
theorem dX7_replay_62 : decode cX7_replay 62 = .ok (.istore_n 3, 1) := by decide +kernel
theorem dX7_replay_63 : decode cX7_replay 63 = .ok (.iload_n 3, 1) := by decide +kernel
theorem dX7_replay_64 : decode cX7_replay 64 = .ok (.ifCond .ge 8, 3) := by decide +kernel
theorem dX7_replay_67 : decode cX7_replay 67 = .ok (.iload_n 3, 1) := by decide +kernel
theorem dX7_replay_68 : decode cX7_replay 68 = .ok (.ineg, 1) := by decide +kernel
theorem dX7_replay_69 : decode cX7_replay 69 = .ok (.goto 4, 3) := by decide +kernel
theorem dX7_replay_72 : decode cX7_replay 72 = .ok (.iload_n 3, 1) := by decide +kernel
theorem dX7_replay_73 : decode cX7_replay 73 = .ok (.istore 4, 2) := by decide +kernel
theorem dX7_replay_75 : decode cX7_replay 75 = .ok (.iconst 0, 1) := by decide +kernel
theorem dX7_replay_76 : decode cX7_replay 76 = .ok (.istore 5, 2) := by decide +kernel
theorem dX7_replay_78 : decode cX7_replay 78 = .ok (.iload 5, 2) := by decide +kernel
theorem dX7_replay_80 : decode cX7_replay 80 = .ok (.iload 4, 2) := by decide +kernel
theorem dX7_replay_82 : decode cX7_replay 82 = .ok (.bipush 100, 2) := by decide +kernel
theorem dX7_replay_84 : decode cX7_replay 84 = .ok (.irem, 1) := by decide +kernel
theorem dX7_replay_85 : decode cX7_replay 85 = .ok (.if_icmp .ge 36, 3) := by decide +kernel
theorem dX7_replay_88 : decode cX7_replay 88 = .ok (.aload_n 0, 1) := by decide +kernel
theorem dX7_replay_89 : decode cX7_replay 89 = .ok (.getfield 16, 3) := by decide +kernel
theorem dX7_replay_92 : decode cX7_replay 92 = .ok (.iload 4, 2) := by decide +kernel
theorem dX7_replay_94 : decode cX7_replay 94 = .ok (.bipush 100, 2) := by decide +kernel
theorem dX7_replay_96 : decode cX7_replay 96 = .ok (.idiv, 1) := by decide +kernel
theorem dX7_replay_97 : decode cX7_replay 97 = .ok (.bipush 32, 2) := by decide +kernel
theorem dX7_replay_99 : decode cX7_replay 99 = .ok (.iload_n 1, 1) := by decide +kernel
theorem dX7_replay_100 : decode cX7_replay 100 = .ok (.imul, 1) := by decide +kernel
theorem dX7_replay_101 : decode cX7_replay 101 = .ok (.isub, 1) := by decide +kernel
theorem dX7_replay_102 : decode cX7_replay 102 = .ok (.iload 5, 2) := by decide +kernel
theorem dX7_replay_104 : decode cX7_replay 104 = .ok (.iadd, 1) := by decide +kernel
theorem dX7_replay_105 : decode cX7_replay 105 = .ok (.iload_n 3, 1) := by decide +kernel
theorem dX7_replay_106 : decode cX7_replay 106 = .ok (.ifCond .ge 7, 3) := by decide +kernel
theorem dX7_replay_109 : decode cX7_replay 109 = .ok (.iconst 0, 1) := by decide +kernel
theorem dX7_replay_110 : decode cX7_replay 110 = .ok (.goto 4, 3) := by decide +kernel
theorem dX7_replay_113 : decode cX7_replay 113 = .ok (.iconst 1, 1) := by decide +kernel
theorem dX7_replay_114 : decode cX7_replay 114 = .ok (.iastore, 1) := by decide +kernel
theorem dX7_replay_115 : decode cX7_replay 115 = .ok (.iinc 5 1, 3) := by decide +kernel
theorem dX7_replay_118 : decode cX7_replay 118 = .ok (.goto (-40), 3) := by decide +kernel
theorem dX7_replay_121 : decode cX7_replay 121 = .ok (.iinc 2 1, 3) := by decide +kernel
theorem dX7_replay_124 : decode cX7_replay 124 = .ok (.goto (-91), 3) := by decide +kernel
theorem dX7_replay_127 : decode cX7_replay 127 = .ok (.iconst 0, 1) := by decide +kernel
theorem dX7_replay_128 : decode cX7_replay 128 = .ok (.istore_n 2, 1) := by decide +kernel
theorem dX7_replay_129 : decode cX7_replay 129 = .ok (.iconst 0, 1) := by decide +kernel
theorem dX7_replay_130 : decode cX7_replay 130 = .ok (.istore_n 3, 1) := by decide +kernel
theorem dX7_replay_131 : decode cX7_replay 131 = .ok (.iload_n 3, 1) := by decide +kernel
theorem dX7_replay_132 : decode cX7_replay 132 = .ok (.bipush 32, 2) := by decide +kernel
theorem dX7_replay_134 : decode cX7_replay 134 = .ok (.if_icmp .ge 18, 3) := by decide +kernel
theorem dX7_replay_137 : decode cX7_replay 137 = .ok (.iload_n 2, 1) := by decide +kernel
theorem dX7_replay_138 : decode cX7_replay 138 = .ok (.aload_n 0, 1) := by decide +kernel
theorem dX7_replay_139 : decode cX7_replay 139 = .ok (.getfield 16, 3) := by decide +kernel
theorem dX7_replay_142 : decode cX7_replay 142 = .ok (.iload_n 3, 1) := by decide +kernel
theorem dX7_replay_143 : decode cX7_replay 143 = .ok (.iaload, 1) := by decide +kernel
theorem dX7_replay_144 : decode cX7_replay 144 = .ok (.iadd, 1) := by decide +kernel
theorem dX7_replay_145 : decode cX7_replay 145 = .ok (.istore_n 2, 1) := by decide +kernel
theorem dX7_replay_146 : decode cX7_replay 146 = .ok (.iinc 3 1, 3) := by decide +kernel
theorem dX7_replay_149 : decode cX7_replay 149 = .ok (.goto (-18), 3) := by decide +kernel
theorem dX7_replay_152 : decode cX7_replay 152 = .ok (.iload_n 2, 1) := by decide +kernel
theorem dX7_replay_153 : decode cX7_replay 153 = .ok (.ireturn, 1) := by decide +kernel
theorem dX7_condensed_0 : decode cX7_condensed 0 = .ok (.aload_n 0, 1) := by decide +kernel
theorem dX7_condensed_1 : decode cX7_condensed 1 = .ok (.iconst 0, 1) := by decide +kernel
theorem dX7_condensed_2 : decode cX7_condensed 2 = .ok (.putfield 22, 3) := by decide +kernel
theorem dX7_condensed_5 : decode cX7_condensed 5 = .ok (.aload_n 0, 1) := by decide +kernel
theorem dX7_condensed_6 : decode cX7_condensed 6 = .ok (.getfield 7, 3) := by decide +kernel
theorem dX7_condensed_9 : decode cX7_condensed 9 = .ok (.sipush 3396, 3) := by decide +kernel
theorem dX7_condensed_12 : decode cX7_condensed 12 = .ok (.iaload, 1) := by decide +kernel
theorem dX7_condensed_13 : decode cX7_condensed 13 = .ok (.ireturn, 1) := by decide +kernel
theorem dJ7_fill_53178_0 : decode cJ7_fill_53178 0 = .ok (.iconst 0, 1) := by decide +kernel
theorem dJ7_fill_53178_1 : decode cJ7_fill_53178 1 = .ok (.istore_n 2, 1) := by decide +kernel
theorem dJ7_fill_53178_2 : decode cJ7_fill_53178 2 = .ok (.aload_n 0, 1) := by decide +kernel
theorem dJ7_fill_53178_3 : decode cJ7_fill_53178 3 = .ok (.arraylength, 1) := by decide +kernel
theorem dJ7_fill_53178_4 : decode cJ7_fill_53178 4 = .ok (.istore_n 3, 1) := by decide +kernel
theorem dJ7_fill_53178_5 : decode cJ7_fill_53178 5 = .ok (.iload_n 2, 1) := by decide +kernel
theorem dJ7_fill_53178_6 : decode cJ7_fill_53178 6 = .ok (.iload_n 3, 1) := by decide +kernel
theorem dJ7_fill_53178_7 : decode cJ7_fill_53178 7 = .ok (.if_icmp .ge 13, 3) := by decide +kernel
theorem dJ7_fill_53178_10 : decode cJ7_fill_53178 10 = .ok (.aload_n 0, 1) := by decide +kernel
theorem dJ7_fill_53178_11 : decode cJ7_fill_53178 11 = .ok (.iload_n 2, 1) := by decide +kernel
theorem dJ7_fill_53178_12 : decode cJ7_fill_53178 12 = .ok (.iload_n 1, 1) := by decide +kernel
theorem dJ7_fill_53178_13 : decode cJ7_fill_53178 13 = .ok (.iastore, 1) := by decide +kernel
theorem dJ7_fill_53178_14 : decode cJ7_fill_53178 14 = .ok (.iinc 2 1, 3) := by decide +kernel
theorem dJ7_fill_53178_17 : decode cJ7_fill_53178 17 = .ok (.goto (-12), 3) := by decide +kernel
theorem dJ7_fill_53178_20 : decode cJ7_fill_53178 20 = .ok (.return_, 1) := by decide +kernel
theorem dL_write_0 : decode cL_write 0 = .ok (.aload 5, 2) := by decide +kernel
theorem dL_write_2 : decode cL_write 2 = .ok (.iconst 0, 1) := by decide +kernel
theorem dL_write_3 : decode cL_write 3 = .ok (.aload_n 0, 1) := by decide +kernel
theorem dL_write_4 : decode cL_write 4 = .ok (.iload_n 1, 1) := by decide +kernel
theorem dL_write_5 : decode cL_write 5 = .ok (.iload_n 2, 1) := by decide +kernel
theorem dL_write_6 : decode cL_write 6 = .ok (.iload_n 3, 1) := by decide +kernel
theorem dL_write_7 : decode cL_write 7 = .ok (.iload 4, 2) := by decide +kernel
theorem dL_write_9 : decode cL_write 9 = .ok (.invokevirtual 7, 3) := by decide +kernel
theorem dL_write_12 : decode cL_write 12 = .ok (.i2l, 1) := by decide +kernel
theorem dL_write_13 : decode cL_write 13 = .ok (.lastore, 1) := by decide +kernel
theorem dL_write_14 : decode cL_write 14 = .ok (.goto 11, 3) := by decide +kernel
theorem dL_write_17 : decode cL_write 17 = .ok (.astore 6, 2) := by decide +kernel
theorem dL_write_19 : decode cL_write 19 = .ok (.iconst 1, 1) := by decide +kernel
theorem dL_write_20 : decode cL_write 20 = .ok (.ireturn, 1) := by decide +kernel
theorem dL_write_21 : decode cL_write 21 = .ok (.astore 6, 2) := by decide +kernel
theorem dL_write_23 : decode cL_write 23 = .ok (.iconst 2, 1) := by decide +kernel
theorem dL_write_24 : decode cL_write 24 = .ok (.ireturn, 1) := by decide +kernel
theorem dL_write_25 : decode cL_write 25 = .ok (.iconst 0, 1) := by decide +kernel
theorem dL_write_26 : decode cL_write 26 = .ok (.ireturn, 1) := by decide +kernel
theorem dL_read_0 : decode cL_read 0 = .ok (.aload 4, 2) := by decide +kernel
theorem dL_read_2 : decode cL_read 2 = .ok (.iconst 0, 1) := by decide +kernel
theorem dL_read_3 : decode cL_read 3 = .ok (.aload_n 0, 1) := by decide +kernel
theorem dL_read_4 : decode cL_read 4 = .ok (.iload_n 1, 1) := by decide +kernel
theorem dL_read_5 : decode cL_read 5 = .ok (.iload_n 2, 1) := by decide +kernel
theorem dL_read_6 : decode cL_read 6 = .ok (.iload_n 3, 1) := by decide +kernel
theorem dL_read_7 : decode cL_read 7 = .ok (.invokevirtual 17, 3) := by decide +kernel
theorem dL_read_10 : decode cL_read 10 = .ok (.i2l, 1) := by decide +kernel
theorem dL_read_11 : decode cL_read 11 = .ok (.lastore, 1) := by decide +kernel
theorem dL_read_12 : decode cL_read 12 = .ok (.goto 7, 3) := by decide +kernel
theorem dL_read_15 : decode cL_read 15 = .ok (.astore 5, 2) := by decide +kernel
theorem dL_read_17 : decode cL_read 17 = .ok (.iconst 1, 1) := by decide +kernel
theorem dL_read_18 : decode cL_read 18 = .ok (.ireturn, 1) := by decide +kernel
theorem dL_read_19 : decode cL_read 19 = .ok (.iconst 0, 1) := by decide +kernel
theorem dL_read_20 : decode cL_read 20 = .ok (.ireturn, 1) := by decide +kernel
theorem dL_blockAt_0 : decode cL_blockAt 0 = .ok (.aload 4, 2) := by decide +kernel
theorem dL_blockAt_2 : decode cL_blockAt 2 = .ok (.iconst 0, 1) := by decide +kernel
theorem dL_blockAt_3 : decode cL_blockAt 3 = .ok (.aload_n 0, 1) := by decide +kernel
theorem dL_blockAt_4 : decode cL_blockAt 4 = .ok (.iload_n 1, 1) := by decide +kernel
theorem dL_blockAt_5 : decode cL_blockAt 5 = .ok (.iload_n 2, 1) := by decide +kernel
theorem dL_blockAt_6 : decode cL_blockAt 6 = .ok (.iload_n 3, 1) := by decide +kernel
theorem dL_blockAt_7 : decode cL_blockAt 7 = .ok (.invokevirtual 21, 3) := by decide +kernel
theorem dL_blockAt_10 : decode cL_blockAt 10 = .ok (.i2l, 1) := by decide +kernel
theorem dL_blockAt_11 : decode cL_blockAt 11 = .ok (.lastore, 1) := by decide +kernel
theorem dL_blockAt_12 : decode cL_blockAt 12 = .ok (.goto 7, 3) := by decide +kernel
theorem dL_blockAt_15 : decode cL_blockAt 15 = .ok (.astore 5, 2) := by decide +kernel
theorem dL_blockAt_17 : decode cL_blockAt 17 = .ok (.iconst 1, 1) := by decide +kernel
theorem dL_blockAt_18 : decode cL_blockAt 18 = .ok (.ireturn, 1) := by decide +kernel
theorem dL_blockAt_19 : decode cL_blockAt 19 = .ok (.iconst 0, 1) := by decide +kernel
theorem dL_blockAt_20 : decode cL_blockAt 20 = .ok (.ireturn, 1) := by decide +kernel
theorem dL_length_0 : decode cL_length 0 = .ok (.aload_n 3, 1) := by decide +kernel
theorem dL_length_1 : decode cL_length 1 = .ok (.iconst 0, 1) := by decide +kernel
theorem dL_length_2 : decode cL_length 2 = .ok (.aload_n 0, 1) := by decide +kernel
theorem dL_length_3 : decode cL_length 3 = .ok (.iload_n 1, 1) := by decide +kernel
theorem dL_length_4 : decode cL_length 4 = .ok (.iload_n 2, 1) := by decide +kernel
theorem dL_length_5 : decode cL_length 5 = .ok (.invokevirtual 24, 3) := by decide +kernel
theorem dL_length_8 : decode cL_length 8 = .ok (.i2l, 1) := by decide +kernel
theorem dL_length_9 : decode cL_length 9 = .ok (.lastore, 1) := by decide +kernel
theorem dL_length_10 : decode cL_length 10 = .ok (.goto 7, 3) := by decide +kernel
theorem dL_length_13 : decode cL_length 13 = .ok (.astore 4, 2) := by decide +kernel
theorem dL_length_15 : decode cL_length 15 = .ok (.iconst 1, 1) := by decide +kernel
theorem dL_length_16 : decode cL_length 16 = .ok (.ireturn, 1) := by decide +kernel
theorem dL_length_17 : decode cL_length 17 = .ok (.iconst 0, 1) := by decide +kernel
theorem dL_length_18 : decode cL_length 18 = .ok (.ireturn, 1) := by decide +kernel
theorem dL_punch_0 : decode cL_punch 0 = .ok (.aload 5, 2) := by decide +kernel
theorem dL_punch_2 : decode cL_punch 2 = .ok (.iconst 0, 1) := by decide +kernel
theorem dL_punch_3 : decode cL_punch 3 = .ok (.aload_n 0, 1) := by decide +kernel
theorem dL_punch_4 : decode cL_punch 4 = .ok (.iload_n 1, 1) := by decide +kernel
theorem dL_punch_5 : decode cL_punch 5 = .ok (.iload_n 2, 1) := by decide +kernel
theorem dL_punch_6 : decode cL_punch 6 = .ok (.iload_n 3, 1) := by decide +kernel
theorem dL_punch_7 : decode cL_punch 7 = .ok (.iload 4, 2) := by decide +kernel
theorem dL_punch_9 : decode cL_punch 9 = .ok (.invokevirtual 28, 3) := by decide +kernel
theorem dL_punch_12 : decode cL_punch 12 = .ok (.i2l, 1) := by decide +kernel
theorem dL_punch_13 : decode cL_punch 13 = .ok (.lastore, 1) := by decide +kernel
theorem dL_punch_14 : decode cL_punch 14 = .ok (.goto 11, 3) := by decide +kernel
theorem dL_punch_17 : decode cL_punch 17 = .ok (.astore 6, 2) := by decide +kernel
theorem dL_punch_19 : decode cL_punch 19 = .ok (.iconst 1, 1) := by decide +kernel
theorem dL_punch_20 : decode cL_punch 20 = .ok (.ireturn, 1) := by decide +kernel
theorem dL_punch_21 : decode cL_punch 21 = .ok (.astore 6, 2) := by decide +kernel
theorem dL_punch_23 : decode cL_punch 23 = .ok (.iconst 2, 1) := by decide +kernel
theorem dL_punch_24 : decode cL_punch 24 = .ok (.ireturn, 1) := by decide +kernel
theorem dL_punch_25 : decode cL_punch 25 = .ok (.iconst 0, 1) := by decide +kernel
theorem dL_punch_26 : decode cL_punch 26 = .ok (.ireturn, 1) := by decide +kernel
theorem dL_reflink_0 : decode cL_reflink 0 = .ok (.aload 7, 2) := by decide +kernel
theorem dL_reflink_2 : decode cL_reflink 2 = .ok (.iconst 0, 1) := by decide +kernel
theorem dL_reflink_3 : decode cL_reflink 3 = .ok (.aload_n 0, 1) := by decide +kernel
theorem dL_reflink_4 : decode cL_reflink 4 = .ok (.iload_n 1, 1) := by decide +kernel
theorem dL_reflink_5 : decode cL_reflink 5 = .ok (.iload_n 2, 1) := by decide +kernel
theorem dL_reflink_6 : decode cL_reflink 6 = .ok (.iload_n 3, 1) := by decide +kernel
theorem dL_reflink_7 : decode cL_reflink 7 = .ok (.iload 4, 2) := by decide +kernel
theorem dL_reflink_9 : decode cL_reflink 9 = .ok (.iload 5, 2) := by decide +kernel
theorem dL_reflink_11 : decode cL_reflink 11 = .ok (.iload 6, 2) := by decide +kernel
theorem dL_reflink_13 : decode cL_reflink 13 = .ok (.invokevirtual 33, 3) := by decide +kernel
theorem dL_reflink_16 : decode cL_reflink 16 = .ok (.i2l, 1) := by decide +kernel
theorem dL_reflink_17 : decode cL_reflink 17 = .ok (.lastore, 1) := by decide +kernel
theorem dL_reflink_18 : decode cL_reflink 18 = .ok (.goto 11, 3) := by decide +kernel
theorem dL_reflink_21 : decode cL_reflink 21 = .ok (.astore 8, 2) := by decide +kernel
theorem dL_reflink_23 : decode cL_reflink 23 = .ok (.iconst 1, 1) := by decide +kernel
theorem dL_reflink_24 : decode cL_reflink 24 = .ok (.ireturn, 1) := by decide +kernel
theorem dL_reflink_25 : decode cL_reflink 25 = .ok (.astore 8, 2) := by decide +kernel
theorem dL_reflink_27 : decode cL_reflink 27 = .ok (.iconst 2, 1) := by decide +kernel
theorem dL_reflink_28 : decode cL_reflink 28 = .ok (.ireturn, 1) := by decide +kernel
theorem dL_reflink_29 : decode cL_reflink 29 = .ok (.iconst 0, 1) := by decide +kernel
theorem dL_reflink_30 : decode cL_reflink 30 = .ok (.ireturn, 1) := by decide +kernel
theorem dL_snapshot_0 : decode cL_snapshot 0 = .ok (.aload_n 2, 1) := by decide +kernel
theorem dL_snapshot_1 : decode cL_snapshot 1 = .ok (.iconst 0, 1) := by decide +kernel
theorem dL_snapshot_2 : decode cL_snapshot 2 = .ok (.aload_n 0, 1) := by decide +kernel
theorem dL_snapshot_3 : decode cL_snapshot 3 = .ok (.iload_n 1, 1) := by decide +kernel
theorem dL_snapshot_4 : decode cL_snapshot 4 = .ok (.invokevirtual 37, 3) := by decide +kernel
theorem dL_snapshot_7 : decode cL_snapshot 7 = .ok (.i2l, 1) := by decide +kernel
theorem dL_snapshot_8 : decode cL_snapshot 8 = .ok (.lastore, 1) := by decide +kernel
theorem dL_snapshot_9 : decode cL_snapshot 9 = .ok (.goto 9, 3) := by decide +kernel
theorem dL_snapshot_12 : decode cL_snapshot 12 = .ok (.astore_n 3, 1) := by decide +kernel
theorem dL_snapshot_13 : decode cL_snapshot 13 = .ok (.iconst 1, 1) := by decide +kernel
theorem dL_snapshot_14 : decode cL_snapshot 14 = .ok (.ireturn, 1) := by decide +kernel
theorem dL_snapshot_15 : decode cL_snapshot 15 = .ok (.astore_n 3, 1) := by decide +kernel
theorem dL_snapshot_16 : decode cL_snapshot 16 = .ok (.iconst 2, 1) := by decide +kernel
theorem dL_snapshot_17 : decode cL_snapshot 17 = .ok (.ireturn, 1) := by decide +kernel
theorem dL_snapshot_18 : decode cL_snapshot 18 = .ok (.iconst 0, 1) := by decide +kernel
theorem dL_snapshot_19 : decode cL_snapshot 19 = .ok (.ireturn, 1) := by decide +kernel
theorem dL_readSnapshot_0 : decode cL_readSnapshot 0 = .ok (.aload 4, 2) := by decide +kernel
theorem dL_readSnapshot_2 : decode cL_readSnapshot 2 = .ok (.iconst 0, 1) := by decide +kernel
theorem dL_readSnapshot_3 : decode cL_readSnapshot 3 = .ok (.aload_n 0, 1) := by decide +kernel
theorem dL_readSnapshot_4 : decode cL_readSnapshot 4 = .ok (.iload_n 1, 1) := by decide +kernel
theorem dL_readSnapshot_5 : decode cL_readSnapshot 5 = .ok (.iload_n 2, 1) := by decide +kernel
theorem dL_readSnapshot_6 : decode cL_readSnapshot 6 = .ok (.iload_n 3, 1) := by decide +kernel
theorem dL_readSnapshot_7 : decode cL_readSnapshot 7 = .ok (.invokevirtual 41, 3) := by decide +kernel
theorem dL_readSnapshot_10 : decode cL_readSnapshot 10 = .ok (.i2l, 1) := by decide +kernel
theorem dL_readSnapshot_11 : decode cL_readSnapshot 11 = .ok (.lastore, 1) := by decide +kernel
theorem dL_readSnapshot_12 : decode cL_readSnapshot 12 = .ok (.goto 7, 3) := by decide +kernel
theorem dL_readSnapshot_15 : decode cL_readSnapshot 15 = .ok (.astore 5, 2) := by decide +kernel
theorem dL_readSnapshot_17 : decode cL_readSnapshot 17 = .ok (.iconst 1, 1) := by decide +kernel
theorem dL_readSnapshot_18 : decode cL_readSnapshot 18 = .ok (.ireturn, 1) := by decide +kernel
theorem dL_readSnapshot_19 : decode cL_readSnapshot 19 = .ok (.iconst 0, 1) := by decide +kernel
theorem dL_readSnapshot_20 : decode cL_readSnapshot 20 = .ok (.ireturn, 1) := by decide +kernel
theorem dL_blockInSnapshot_0 : decode cL_blockInSnapshot 0 = .ok (.aload 4, 2) := by decide +kernel
theorem dL_blockInSnapshot_2 : decode cL_blockInSnapshot 2 = .ok (.iconst 0, 1) := by decide +kernel
theorem dL_blockInSnapshot_3 : decode cL_blockInSnapshot 3 = .ok (.aload_n 0, 1) := by decide +kernel
theorem dL_blockInSnapshot_4 : decode cL_blockInSnapshot 4 = .ok (.iload_n 1, 1) := by decide +kernel
theorem dL_blockInSnapshot_5 : decode cL_blockInSnapshot 5 = .ok (.iload_n 2, 1) := by decide +kernel
theorem dL_blockInSnapshot_6 : decode cL_blockInSnapshot 6 = .ok (.iload_n 3, 1) := by decide +kernel
theorem dL_blockInSnapshot_7 : decode cL_blockInSnapshot 7 = .ok (.invokevirtual 44, 3) := by decide +kernel
theorem dL_blockInSnapshot_10 : decode cL_blockInSnapshot 10 = .ok (.i2l, 1) := by decide +kernel
theorem dL_blockInSnapshot_11 : decode cL_blockInSnapshot 11 = .ok (.lastore, 1) := by decide +kernel
theorem dL_blockInSnapshot_12 : decode cL_blockInSnapshot 12 = .ok (.goto 7, 3) := by decide +kernel
theorem dL_blockInSnapshot_15 : decode cL_blockInSnapshot 15 = .ok (.astore 5, 2) := by decide +kernel
theorem dL_blockInSnapshot_17 : decode cL_blockInSnapshot 17 = .ok (.iconst 1, 1) := by decide +kernel
theorem dL_blockInSnapshot_18 : decode cL_blockInSnapshot 18 = .ok (.ireturn, 1) := by decide +kernel
theorem dL_blockInSnapshot_19 : decode cL_blockInSnapshot 19 = .ok (.iconst 0, 1) := by decide +kernel
theorem dL_blockInSnapshot_20 : decode cL_blockInSnapshot 20 = .ok (.ireturn, 1) := by decide +kernel
theorem dL_transactionOf_0 : decode cL_transactionOf 0 = .ok (.aload_n 2, 1) := by decide +kernel
theorem dL_transactionOf_1 : decode cL_transactionOf 1 = .ok (.iconst 0, 1) := by decide +kernel
theorem dL_transactionOf_2 : decode cL_transactionOf 2 = .ok (.aload_n 0, 1) := by decide +kernel
theorem dL_transactionOf_3 : decode cL_transactionOf 3 = .ok (.iload_n 1, 1) := by decide +kernel
theorem dL_transactionOf_4 : decode cL_transactionOf 4 = .ok (.invokevirtual 47, 3) := by decide +kernel
theorem dL_transactionOf_7 : decode cL_transactionOf 7 = .ok (.i2l, 1) := by decide +kernel
theorem dL_transactionOf_8 : decode cL_transactionOf 8 = .ok (.lastore, 1) := by decide +kernel
theorem dL_transactionOf_9 : decode cL_transactionOf 9 = .ok (.goto 6, 3) := by decide +kernel
theorem dL_transactionOf_12 : decode cL_transactionOf 12 = .ok (.astore_n 3, 1) := by decide +kernel
theorem dL_transactionOf_13 : decode cL_transactionOf 13 = .ok (.iconst 1, 1) := by decide +kernel
theorem dL_transactionOf_14 : decode cL_transactionOf 14 = .ok (.ireturn, 1) := by decide +kernel
theorem dL_transactionOf_15 : decode cL_transactionOf 15 = .ok (.iconst 0, 1) := by decide +kernel
theorem dL_transactionOf_16 : decode cL_transactionOf 16 = .ok (.ireturn, 1) := by decide +kernel
theorem dL_datasetOf_0 : decode cL_datasetOf 0 = .ok (.aload_n 2, 1) := by decide +kernel
theorem dL_datasetOf_1 : decode cL_datasetOf 1 = .ok (.iconst 0, 1) := by decide +kernel
theorem dL_datasetOf_2 : decode cL_datasetOf 2 = .ok (.aload_n 0, 1) := by decide +kernel
theorem dL_datasetOf_3 : decode cL_datasetOf 3 = .ok (.iload_n 1, 1) := by decide +kernel
theorem dL_datasetOf_4 : decode cL_datasetOf 4 = .ok (.invokevirtual 50, 3) := by decide +kernel
theorem dL_datasetOf_7 : decode cL_datasetOf 7 = .ok (.i2l, 1) := by decide +kernel
theorem dL_datasetOf_8 : decode cL_datasetOf 8 = .ok (.lastore, 1) := by decide +kernel
theorem dL_datasetOf_9 : decode cL_datasetOf 9 = .ok (.goto 6, 3) := by decide +kernel
theorem dL_datasetOf_12 : decode cL_datasetOf 12 = .ok (.astore_n 3, 1) := by decide +kernel
theorem dL_datasetOf_13 : decode cL_datasetOf 13 = .ok (.iconst 1, 1) := by decide +kernel
theorem dL_datasetOf_14 : decode cL_datasetOf 14 = .ok (.ireturn, 1) := by decide +kernel
theorem dL_datasetOf_15 : decode cL_datasetOf 15 = .ok (.iconst 0, 1) := by decide +kernel
theorem dL_datasetOf_16 : decode cL_datasetOf 16 = .ok (.ireturn, 1) := by decide +kernel
theorem dL_snapshots_0 : decode cL_snapshots 0 = .ok (.aload_n 2, 1) := by decide +kernel
theorem dL_snapshots_1 : decode cL_snapshots 1 = .ok (.iconst 0, 1) := by decide +kernel
theorem dL_snapshots_2 : decode cL_snapshots 2 = .ok (.aload_n 0, 1) := by decide +kernel
theorem dL_snapshots_3 : decode cL_snapshots 3 = .ok (.iload_n 1, 1) := by decide +kernel
theorem dL_snapshots_4 : decode cL_snapshots 4 = .ok (.invokevirtual 53, 3) := by decide +kernel
theorem dL_snapshots_7 : decode cL_snapshots 7 = .ok (.i2l, 1) := by decide +kernel
