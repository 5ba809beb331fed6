theorem dX6_thrown_0 : decode cX6_thrown 0 = .ok (.aload_n 0, 1) := by decide +kernel
theorem dX6_thrown_1 : decode cX6_thrown 1 = .ok (.getfield 48, 3) := by decide +kernel
theorem dX6_thrown_4 : decode cX6_thrown 4 = .ok (.ireturn, 1) := by decide +kernel
theorem dX6_raises_0 : decode cX6_raises 0 = .ok (.aload_n 0, 1) := by decide +kernel
theorem dX6_raises_1 : decode cX6_raises 1 = .ok (.iload_n 1, 1) := by decide +kernel
theorem dX6_raises_2 : decode cX6_raises 2 = .ok (.putfield 48, 3) := by decide +kernel
theorem dX6_raises_5 : decode cX6_raises 5 = .ok (.iconst 0, 1) := by decide +kernel
theorem dX6_raises_6 : decode cX6_raises 6 = .ok (.ireturn, 1) := by decide +kernel
theorem dX6_in_0 : decode cX6_in 0 = .ok (.iload_n 0, 1) := by decide +kernel
theorem dX6_in_1 : decode cX6_in 1 = .ok (.iload_n 1, 1) := by decide +kernel
theorem dX6_in_2 : decode cX6_in 2 = .ok (.if_icmp .lt 12, 3) := by decide +kernel
theorem dX6_in_5 : decode cX6_in 5 = .ok (.iload_n 0, 1) := by decide +kernel
theorem dX6_in_6 : decode cX6_in 6 = .ok (.iload_n 2, 1) := by decide +kernel
theorem dX6_in_7 : decode cX6_in 7 = .ok (.if_icmp .gt 7, 3) := by decide +kernel
theorem dX6_in_10 : decode cX6_in 10 = .ok (.iconst 1, 1) := by decide +kernel
theorem dX6_in_11 : decode cX6_in 11 = .ok (.goto 4, 3) := by decide +kernel
theorem dX6_in_14 : decode cX6_in 14 = .ok (.iconst 0, 1) := by decide +kernel
theorem dX6_in_15 : decode cX6_in 15 = .ok (.ireturn, 1) := by decide +kernel
theorem dX6_isLevel_0 : decode cX6_isLevel 0 = .ok (.iload_n 1, 1) := by decide +kernel
theorem dX6_isLevel_1 : decode cX6_isLevel 1 = .ok (.iconst 1, 1) := by decide +kernel
theorem dX6_isLevel_2 : decode cX6_isLevel 2 = .ok (.aload_n 0, 1) := by decide +kernel
theorem dX6_isLevel_3 : decode cX6_isLevel 3 = .ok (.getfield 51, 3) := by decide +kernel
theorem dX6_isLevel_6 : decode cX6_isLevel 6 = .ok (.invokestatic 54, 3) := by decide +kernel
theorem dX6_isLevel_9 : decode cX6_isLevel 9 = .ok (.ireturn, 1) := by decide +kernel
theorem dX6_lacks_0 : decode cX6_lacks 0 = .ok (.aload_n 0, 1) := by decide +kernel
theorem dX6_lacks_1 : decode cX6_lacks 1 = .ok (.aload_n 0, 1) := by decide +kernel
theorem dX6_lacks_2 : decode cX6_lacks 2 = .ok (.iload_n 1, 1) := by decide +kernel
theorem dX6_lacks_3 : decode cX6_lacks 3 = .ok (.invokevirtual 58, 3) := by decide +kernel
theorem dX6_lacks_6 : decode cX6_lacks 6 = .ok (.ifCond .eq 7, 3) := by decide +kernel
theorem dX6_lacks_9 : decode cX6_lacks 9 = .ok (.iconst 0, 1) := by decide +kernel
theorem dX6_lacks_10 : decode cX6_lacks 10 = .ok (.goto 4, 3) := by decide +kernel
theorem dX6_lacks_13 : decode cX6_lacks 13 = .ok (.iconst 1, 1) := by decide +kernel
theorem dX6_lacks_14 : decode cX6_lacks 14 = .ok (.putfield 48, 3) := by decide +kernel
theorem dX6_lacks_17 : decode cX6_lacks 17 = .ok (.aload_n 0, 1) := by decide +kernel
theorem dX6_lacks_18 : decode cX6_lacks 18 = .ok (.getfield 48, 3) := by decide +kernel
theorem dX6_lacks_21 : decode cX6_lacks 21 = .ok (.ifCond .le 7, 3) := by decide +kernel
theorem dX6_lacks_24 : decode cX6_lacks 24 = .ok (.iconst 1, 1) := by decide +kernel
theorem dX6_lacks_25 : decode cX6_lacks 25 = .ok (.goto 4, 3) := by decide +kernel
theorem dX6_lacks_28 : decode cX6_lacks 28 = .ok (.iconst 0, 1) := by decide +kernel
theorem dX6_lacks_29 : decode cX6_lacks 29 = .ok (.ireturn, 1) := by decide +kernel
theorem dX6_lacksPlace_0 : decode cX6_lacksPlace 0 = .ok (.aload_n 0, 1) := by decide +kernel
theorem dX6_lacksPlace_1 : decode cX6_lacksPlace 1 = .ok (.iload_n 1, 1) := by decide +kernel
theorem dX6_lacksPlace_2 : decode cX6_lacksPlace 2 = .ok (.iconst 0, 1) := by decide +kernel
theorem dX6_lacksPlace_3 : decode cX6_lacksPlace 3 = .ok (.aload_n 0, 1) := by decide +kernel
theorem dX6_lacksPlace_4 : decode cX6_lacksPlace 4 = .ok (.getfield 51, 3) := by decide +kernel
theorem dX6_lacksPlace_7 : decode cX6_lacksPlace 7 = .ok (.invokestatic 54, 3) := by decide +kernel
theorem dX6_lacksPlace_10 : decode cX6_lacksPlace 10 = .ok (.ifCond .eq 7, 3) := by decide +kernel
theorem dX6_lacksPlace_13 : decode cX6_lacksPlace 13 = .ok (.iconst 0, 1) := by decide +kernel
theorem dX6_lacksPlace_14 : decode cX6_lacksPlace 14 = .ok (.goto 4, 3) := by decide +kernel
theorem dX6_lacksPlace_17 : decode cX6_lacksPlace 17 = .ok (.iconst 1, 1) := by decide +kernel
theorem dX6_lacksPlace_18 : decode cX6_lacksPlace 18 = .ok (.putfield 48, 3) := by decide +kernel
theorem dX6_lacksPlace_21 : decode cX6_lacksPlace 21 = .ok (.aload_n 0, 1) := by decide +kernel
theorem dX6_lacksPlace_22 : decode cX6_lacksPlace 22 = .ok (.getfield 48, 3) := by decide +kernel
theorem dX6_lacksPlace_25 : decode cX6_lacksPlace 25 = .ok (.ifCond .le 7, 3) := by decide +kernel
theorem dX6_lacksPlace_28 : decode cX6_lacksPlace 28 = .ok (.iconst 1, 1) := by decide +kernel
theorem dX6_lacksPlace_29 : decode cX6_lacksPlace 29 = .ok (.goto 4, 3) := by decide +kernel
theorem dX6_lacksPlace_32 : decode cX6_lacksPlace 32 = .ok (.iconst 0, 1) := by decide +kernel
theorem dX6_lacksPlace_33 : decode cX6_lacksPlace 33 = .ok (.ireturn, 1) := by decide +kernel
theorem dX6_addLevel_0 : decode cX6_addLevel 0 = .ok (.iload_n 1, 1) := by decide +kernel
theorem dX6_addLevel_1 : decode cX6_addLevel 1 = .ok (.bipush 10, 2) := by decide +kernel
theorem dX6_addLevel_3 : decode cX6_addLevel 3 = .ok (.sipush 2000, 3) := by decide +kernel
theorem dX6_addLevel_6 : decode cX6_addLevel 6 = .ok (.invokestatic 54, 3) := by decide +kernel
theorem dX6_addLevel_9 : decode cX6_addLevel 9 = .ok (.ifCond .eq 52, 3) := by decide +kernel
theorem dX6_addLevel_12 : decode cX6_addLevel 12 = .ok (.iload_n 2, 1) := by decide +kernel
theorem dX6_addLevel_13 : decode cX6_addLevel 13 = .ok (.iconst 1, 1) := by decide +kernel
theorem dX6_addLevel_14 : decode cX6_addLevel 14 = .ok (.sipush 500, 3) := by decide +kernel
theorem dX6_addLevel_17 : decode cX6_addLevel 17 = .ok (.invokestatic 54, 3) := by decide +kernel
theorem dX6_addLevel_20 : decode cX6_addLevel 20 = .ok (.ifCond .eq 41, 3) := by decide +kernel
theorem dX6_addLevel_23 : decode cX6_addLevel 23 = .ok (.iload_n 3, 1) := by decide +kernel
theorem dX6_addLevel_24 : decode cX6_addLevel 24 = .ok (.iconst 1, 1) := by decide +kernel
theorem dX6_addLevel_25 : decode cX6_addLevel 25 = .ok (.bipush 20, 2) := by decide +kernel
theorem dX6_addLevel_27 : decode cX6_addLevel 27 = .ok (.invokestatic 54, 3) := by decide +kernel
theorem dX6_addLevel_30 : decode cX6_addLevel 30 = .ok (.ifCond .eq 31, 3) := by decide +kernel
theorem dX6_addLevel_33 : decode cX6_addLevel 33 = .ok (.iload 4, 2) := by decide +kernel
theorem dX6_addLevel_35 : decode cX6_addLevel 35 = .ok (.iconst 0, 1) := by decide +kernel
theorem dX6_addLevel_36 : decode cX6_addLevel 36 = .ok (.bipush 50, 2) := by decide +kernel
theorem dX6_addLevel_38 : decode cX6_addLevel 38 = .ok (.invokestatic 54, 3) := by decide +kernel
theorem dX6_addLevel_41 : decode cX6_addLevel 41 = .ok (.ifCond .eq 20, 3) := by decide +kernel
theorem dX6_addLevel_44 : decode cX6_addLevel 44 = .ok (.iload_n 1, 1) := by decide +kernel
theorem dX6_addLevel_45 : decode cX6_addLevel 45 = .ok (.aload_n 0, 1) := by decide +kernel
theorem dX6_addLevel_46 : decode cX6_addLevel 46 = .ok (.getfield 9, 3) := by decide +kernel
theorem dX6_addLevel_49 : decode cX6_addLevel 49 = .ok (.aload_n 0, 1) := by decide +kernel
theorem dX6_addLevel_50 : decode cX6_addLevel 50 = .ok (.getfield 51, 3) := by decide +kernel
theorem dX6_addLevel_53 : decode cX6_addLevel 53 = .ok (.iaload, 1) := by decide +kernel
theorem dX6_addLevel_54 : decode cX6_addLevel 54 = .ok (.if_icmp .le 7, 3) := by decide +kernel
theorem dX6_addLevel_57 : decode cX6_addLevel 57 = .ok (.iconst 1, 1) := by decide +kernel
theorem dX6_addLevel_58 : decode cX6_addLevel 58 = .ok (.goto 4, 3) := by decide +kernel
theorem dX6_addLevel_61 : decode cX6_addLevel 61 = .ok (.iconst 0, 1) := by decide +kernel
theorem dX6_addLevel_62 : decode cX6_addLevel 62 = .ok (.istore 5, 2) := by decide +kernel
theorem dX6_addLevel_64 : decode cX6_addLevel 64 = .ok (.aload_n 0, 1) := by decide +kernel
theorem dX6_addLevel_65 : decode cX6_addLevel 65 = .ok (.iload 5, 2) := by decide +kernel
theorem dX6_addLevel_67 : decode cX6_addLevel 67 = .ok (.ifCond .ne 7, 3) := by decide +kernel
theorem dX6_addLevel_70 : decode cX6_addLevel 70 = .ok (.iconst 1, 1) := by decide +kernel
theorem dX6_addLevel_71 : decode cX6_addLevel 71 = .ok (.goto 27, 3) := by decide +kernel
theorem dX6_addLevel_74 : decode cX6_addLevel 74 = .ok (.aload_n 0, 1) := by decide +kernel
theorem dX6_addLevel_75 : decode cX6_addLevel 75 = .ok (.getfield 51, 3) := by decide +kernel
theorem dX6_addLevel_78 : decode cX6_addLevel 78 = .ok (.bipush 6, 2) := by decide +kernel
theorem dX6_addLevel_80 : decode cX6_addLevel 80 = .ok (.if_icmp .eq 13, 3) := by decide +kernel
theorem dX6_addLevel_83 : decode cX6_addLevel 83 = .ok (.aload_n 0, 1) := by decide +kernel
theorem dX6_addLevel_84 : decode cX6_addLevel 84 = .ok (.getfield 36, 3) := by decide +kernel
theorem dX6_addLevel_87 : decode cX6_addLevel 87 = .ok (.bipush 61, 2) := by decide +kernel
theorem dX6_addLevel_89 : decode cX6_addLevel 89 = .ok (.iaload, 1) := by decide +kernel
theorem dX6_addLevel_90 : decode cX6_addLevel 90 = .ok (.ifCond .le 7, 3) := by decide +kernel
theorem dX6_addLevel_93 : decode cX6_addLevel 93 = .ok (.iconst 2, 1) := by decide +kernel
theorem dX6_addLevel_94 : decode cX6_addLevel 94 = .ok (.goto 4, 3) := by decide +kernel
theorem dX6_addLevel_97 : decode cX6_addLevel 97 = .ok (.iconst 0, 1) := by decide +kernel
theorem dX6_addLevel_98 : decode cX6_addLevel 98 = .ok (.putfield 48, 3) := by decide +kernel
theorem dX6_addLevel_101 : decode cX6_addLevel 101 = .ok (.aload_n 0, 1) := by decide +kernel
theorem dX6_addLevel_102 : decode cX6_addLevel 102 = .ok (.getfield 48, 3) := by decide +kernel
theorem dX6_addLevel_105 : decode cX6_addLevel 105 = .ok (.ifCond .le 5, 3) := by decide +kernel
theorem dX6_addLevel_108 : decode cX6_addLevel 108 = .ok (.iconst 0, 1) := by decide +kernel
theorem dX6_addLevel_109 : decode cX6_addLevel 109 = .ok (.ireturn, 1) := by decide +kernel
theorem dX6_addLevel_110 : decode cX6_addLevel 110 = .ok (.aload_n 0, 1) := by decide +kernel
theorem dX6_addLevel_111 : decode cX6_addLevel 111 = .ok (.dup, 1) := by decide +kernel
theorem dX6_addLevel_112 : decode cX6_addLevel 112 = .ok (.getfield 51, 3) := by decide +kernel
theorem dX6_addLevel_115 : decode cX6_addLevel 115 = .ok (.iconst 1, 1) := by decide +kernel
theorem dX6_addLevel_116 : decode cX6_addLevel 116 = .ok (.iadd, 1) := by decide +kernel
theorem dX6_addLevel_117 : decode cX6_addLevel 117 = .ok (.putfield 51, 3) := by decide +kernel
theorem dX6_addLevel_120 : decode cX6_addLevel 120 = .ok (.aload_n 0, 1) := by decide +kernel
theorem dX6_addLevel_121 : decode cX6_addLevel 121 = .ok (.getfield 9, 3) := by decide +kernel
theorem dX6_addLevel_124 : decode cX6_addLevel 124 = .ok (.aload_n 0, 1) := by decide +kernel
theorem dX6_addLevel_125 : decode cX6_addLevel 125 = .ok (.getfield 51, 3) := by decide +kernel
theorem dX6_addLevel_128 : decode cX6_addLevel 128 = .ok (.iload_n 1, 1) := by decide +kernel
theorem dX6_addLevel_129 : decode cX6_addLevel 129 = .ok (.iastore, 1) := by decide +kernel
theorem dX6_addLevel_130 : decode cX6_addLevel 130 = .ok (.aload_n 0, 1) := by decide +kernel
theorem dX6_addLevel_131 : decode cX6_addLevel 131 = .ok (.getfield 13, 3) := by decide +kernel
theorem dX6_addLevel_134 : decode cX6_addLevel 134 = .ok (.aload_n 0, 1) := by decide +kernel
theorem dX6_addLevel_135 : decode cX6_addLevel 135 = .ok (.getfield 51, 3) := by decide +kernel
theorem dX6_addLevel_138 : decode cX6_addLevel 138 = .ok (.iload_n 2, 1) := by decide +kernel
theorem dX6_addLevel_139 : decode cX6_addLevel 139 = .ok (.iastore, 1) := by decide +kernel
theorem dX6_addLevel_140 : decode cX6_addLevel 140 = .ok (.aload_n 0, 1) := by decide +kernel
theorem dX6_addLevel_141 : decode cX6_addLevel 141 = .ok (.getfield 16, 3) := by decide +kernel
theorem dX6_addLevel_144 : decode cX6_addLevel 144 = .ok (.aload_n 0, 1) := by decide +kernel
theorem dX6_addLevel_145 : decode cX6_addLevel 145 = .ok (.getfield 51, 3) := by decide +kernel
theorem dX6_addLevel_148 : decode cX6_addLevel 148 = .ok (.iload_n 3, 1) := by decide +kernel
theorem dX6_addLevel_149 : decode cX6_addLevel 149 = .ok (.iastore, 1) := by decide +kernel
theorem dX6_addLevel_150 : decode cX6_addLevel 150 = .ok (.aload_n 0, 1) := by decide +kernel
theorem dX6_addLevel_151 : decode cX6_addLevel 151 = .ok (.getfield 19, 3) := by decide +kernel
theorem dX6_addLevel_154 : decode cX6_addLevel 154 = .ok (.aload_n 0, 1) := by decide +kernel
theorem dX6_addLevel_155 : decode cX6_addLevel 155 = .ok (.getfield 51, 3) := by decide +kernel
theorem dX6_addLevel_158 : decode cX6_addLevel 158 = .ok (.iload 4, 2) := by decide +kernel
theorem dX6_addLevel_160 : decode cX6_addLevel 160 = .ok (.iastore, 1) := by decide +kernel
theorem dX6_addLevel_161 : decode cX6_addLevel 161 = .ok (.aload_n 0, 1) := by decide +kernel
theorem dX6_addLevel_162 : decode cX6_addLevel 162 = .ok (.getfield 22, 3) := by decide +kernel
theorem dX6_addLevel_165 : decode cX6_addLevel 165 = .ok (.aload_n 0, 1) := by decide +kernel
theorem dX6_addLevel_166 : decode cX6_addLevel 166 = .ok (.getfield 51, 3) := by decide +kernel
theorem dX6_addLevel_169 : decode cX6_addLevel 169 = .ok (.iconst 1, 1) := by decide +kernel
theorem dX6_addLevel_170 : decode cX6_addLevel 170 = .ok (.bastore, 1) := by decide +kernel
theorem dX6_addLevel_171 : decode cX6_addLevel 171 = .ok (.aload_n 0, 1) := by decide +kernel
theorem dX6_addLevel_172 : decode cX6_addLevel 172 = .ok (.getfield 51, 3) := by decide +kernel
theorem dX6_addLevel_175 : decode cX6_addLevel 175 = .ok (.ireturn, 1) := by decide +kernel
theorem dX6_levelCount_0 : decode cX6_levelCount 0 = .ok (.aload_n 0, 1) := by decide +kernel
theorem dX6_levelCount_1 : decode cX6_levelCount 1 = .ok (.iconst 0, 1) := by decide +kernel
theorem dX6_levelCount_2 : decode cX6_levelCount 2 = .ok (.putfield 48, 3) := by decide +kernel
theorem dX6_levelCount_5 : decode cX6_levelCount 5 = .ok (.aload_n 0, 1) := by decide +kernel
theorem dX6_levelCount_6 : decode cX6_levelCount 6 = .ok (.getfield 51, 3) := by decide +kernel
theorem dX6_levelCount_9 : decode cX6_levelCount 9 = .ok (.ireturn, 1) := by decide +kernel
theorem dX6_depthOf_0 : decode cX6_depthOf 0 = .ok (.aload_n 0, 1) := by decide +kernel
theorem dX6_depthOf_1 : decode cX6_depthOf 1 = .ok (.iload_n 1, 1) := by decide +kernel
theorem dX6_depthOf_2 : decode cX6_depthOf 2 = .ok (.invokevirtual 62, 3) := by decide +kernel
theorem dX6_depthOf_5 : decode cX6_depthOf 5 = .ok (.ifCond .eq 7, 3) := by decide +kernel
theorem dX6_depthOf_8 : decode cX6_depthOf 8 = .ok (.iconst 0, 1) := by decide +kernel
theorem dX6_depthOf_9 : decode cX6_depthOf 9 = .ok (.goto 9, 3) := by decide +kernel
theorem dX6_depthOf_12 : decode cX6_depthOf 12 = .ok (.aload_n 0, 1) := by decide +kernel
theorem dX6_depthOf_13 : decode cX6_depthOf 13 = .ok (.getfield 9, 3) := by decide +kernel
theorem dX6_depthOf_16 : decode cX6_depthOf 16 = .ok (.iload_n 1, 1) := by decide +kernel
theorem dX6_depthOf_17 : decode cX6_depthOf 17 = .ok (.iaload, 1) := by decide +kernel
theorem dX6_depthOf_18 : decode cX6_depthOf 18 = .ok (.ireturn, 1) := by decide +kernel
theorem dX6_setFan_0 : decode cX6_setFan 0 = .ok (.aload_n 0, 1) := by decide +kernel
theorem dX6_setFan_1 : decode cX6_setFan 1 = .ok (.iload_n 1, 1) := by decide +kernel
theorem dX6_setFan_2 : decode cX6_setFan 2 = .ok (.iconst 0, 1) := by decide +kernel
theorem dX6_setFan_3 : decode cX6_setFan 3 = .ok (.sipush 1000, 3) := by decide +kernel
theorem dX6_setFan_6 : decode cX6_setFan 6 = .ok (.invokestatic 54, 3) := by decide +kernel
theorem dX6_setFan_9 : decode cX6_setFan 9 = .ok (.ifCond .eq 7, 3) := by decide +kernel
theorem dX6_setFan_12 : decode cX6_setFan 12 = .ok (.iconst 0, 1) := by decide +kernel
theorem dX6_setFan_13 : decode cX6_setFan 13 = .ok (.goto 4, 3) := by decide +kernel
theorem dX6_setFan_16 : decode cX6_setFan 16 = .ok (.iconst 1, 1) := by decide +kernel
theorem dX6_setFan_17 : decode cX6_setFan 17 = .ok (.putfield 48, 3) := by decide +kernel
theorem dX6_setFan_20 : decode cX6_setFan 20 = .ok (.aload_n 0, 1) := by decide +kernel
theorem dX6_setFan_21 : decode cX6_setFan 21 = .ok (.getfield 48, 3) := by decide +kernel
theorem dX6_setFan_24 : decode cX6_setFan 24 = .ok (.ifCond .le 5, 3) := by decide +kernel
theorem dX6_setFan_27 : decode cX6_setFan 27 = .ok (.iconst 0, 1) := by decide +kernel
theorem dX6_setFan_28 : decode cX6_setFan 28 = .ok (.ireturn, 1) := by decide +kernel
theorem dX6_setFan_29 : decode cX6_setFan 29 = .ok (.aload_n 0, 1) := by decide +kernel
theorem dX6_setFan_30 : decode cX6_setFan 30 = .ok (.getfield 26, 3) := by decide +kernel
theorem dX6_setFan_33 : decode cX6_setFan 33 = .ok (.istore_n 2, 1) := by decide +kernel
theorem dX6_setFan_34 : decode cX6_setFan 34 = .ok (.aload_n 0, 1) := by decide +kernel
theorem dX6_setFan_35 : decode cX6_setFan 35 = .ok (.iload_n 1, 1) := by decide +kernel
theorem dX6_setFan_36 : decode cX6_setFan 36 = .ok (.putfield 26, 3) := by decide +kernel
theorem dX6_setFan_39 : decode cX6_setFan 39 = .ok (.iload_n 2, 1) := by decide +kernel
theorem dX6_setFan_40 : decode cX6_setFan 40 = .ok (.ireturn, 1) := by decide +kernel
theorem dX6_setDoor_0 : decode cX6_setDoor 0 = .ok (.aload_n 0, 1) := by decide +kernel
theorem dX6_setDoor_1 : decode cX6_setDoor 1 = .ok (.iload_n 1, 1) := by decide +kernel
theorem dX6_setDoor_2 : decode cX6_setDoor 2 = .ok (.invokevirtual 65, 3) := by decide +kernel
theorem dX6_setDoor_5 : decode cX6_setDoor 5 = .ok (.ifCond .eq 5, 3) := by decide +kernel
theorem dX6_setDoor_8 : decode cX6_setDoor 8 = .ok (.iconst 0, 1) := by decide +kernel
theorem dX6_setDoor_9 : decode cX6_setDoor 9 = .ok (.ireturn, 1) := by decide +kernel
theorem dX6_setDoor_10 : decode cX6_setDoor 10 = .ok (.aload_n 0, 1) := by decide +kernel
theorem dX6_setDoor_11 : decode cX6_setDoor 11 = .ok (.getfield 22, 3) := by decide +kernel
theorem dX6_setDoor_14 : decode cX6_setDoor 14 = .ok (.iload_n 1, 1) := by decide +kernel
theorem dX6_setDoor_15 : decode cX6_setDoor 15 = .ok (.baload, 1) := by decide +kernel
theorem dX6_setDoor_16 : decode cX6_setDoor 16 = .ok (.istore_n 3, 1) := by decide +kernel
theorem dX6_setDoor_17 : decode cX6_setDoor 17 = .ok (.aload_n 0, 1) := by decide +kernel
theorem dX6_setDoor_18 : decode cX6_setDoor 18 = .ok (.getfield 22, 3) := by decide +kernel
theorem dX6_setDoor_21 : decode cX6_setDoor 21 = .ok (.iload_n 1, 1) := by decide +kernel
theorem dX6_setDoor_22 : decode cX6_setDoor 22 = .ok (.iload_n 2, 1) := by decide +kernel
theorem dX6_setDoor_23 : decode cX6_setDoor 23 = .ok (.bastore, 1) := by decide +kernel
theorem dX6_setDoor_24 : decode cX6_setDoor 24 = .ok (.iload_n 3, 1) := by decide +kernel
theorem dX6_setDoor_25 : decode cX6_setDoor 25 = .ok (.ireturn, 1) := by decide +kernel
theorem dX6_widthsBelow_0 : decode cX6_widthsBelow 0 = .ok (.iconst 0, 1) := by decide +kernel
theorem dX6_widthsBelow_1 : decode cX6_widthsBelow 1 = .ok (.istore_n 2, 1) := by decide +kernel
theorem dX6_widthsBelow_2 : decode cX6_widthsBelow 2 = .ok (.iload_n 1, 1) := by decide +kernel
theorem dX6_widthsBelow_3 : decode cX6_widthsBelow 3 = .ok (.iconst 1, 1) := by decide +kernel
theorem dX6_widthsBelow_4 : decode cX6_widthsBelow 4 = .ok (.iadd, 1) := by decide +kernel
theorem dX6_widthsBelow_5 : decode cX6_widthsBelow 5 = .ok (.istore_n 3, 1) := by decide +kernel
theorem dX6_widthsBelow_6 : decode cX6_widthsBelow 6 = .ok (.iload_n 3, 1) := by decide +kernel
theorem dX6_widthsBelow_7 : decode cX6_widthsBelow 7 = .ok (.aload_n 0, 1) := by decide +kernel
theorem dX6_widthsBelow_8 : decode cX6_widthsBelow 8 = .ok (.getfield 51, 3) := by decide +kernel
theorem dX6_widthsBelow_11 : decode cX6_widthsBelow 11 = .ok (.if_icmp .gt 31, 3) := by decide +kernel
theorem dX6_widthsBelow_14 : decode cX6_widthsBelow 14 = .ok (.iload_n 2, 1) := by decide +kernel
theorem dX6_widthsBelow_15 : decode cX6_widthsBelow 15 = .ok (.aload_n 0, 1) := by decide +kernel
theorem dX6_widthsBelow_16 : decode cX6_widthsBelow 16 = .ok (.getfield 22, 3) := by decide +kernel
theorem dX6_widthsBelow_19 : decode cX6_widthsBelow 19 = .ok (.iload_n 3, 1) := by decide +kernel
theorem dX6_widthsBelow_20 : decode cX6_widthsBelow 20 = .ok (.baload, 1) := by decide +kernel
theorem dX6_widthsBelow_21 : decode cX6_widthsBelow 21 = .ok (.ifCond .eq 12, 3) := by decide +kernel
theorem dX6_widthsBelow_24 : decode cX6_widthsBelow 24 = .ok (.aload_n 0, 1) := by decide +kernel
theorem dX6_widthsBelow_25 : decode cX6_widthsBelow 25 = .ok (.getfield 16, 3) := by decide +kernel
theorem dX6_widthsBelow_28 : decode cX6_widthsBelow 28 = .ok (.iload_n 3, 1) := by decide +kernel
theorem dX6_widthsBelow_29 : decode cX6_widthsBelow 29 = .ok (.iaload, 1) := by decide +kernel
theorem dX6_widthsBelow_30 : decode cX6_widthsBelow 30 = .ok (.goto 4, 3) := by decide +kernel
theorem dX6_widthsBelow_33 : decode cX6_widthsBelow 33 = .ok (.iconst 0, 1) := by decide +kernel
theorem dX6_widthsBelow_34 : decode cX6_widthsBelow 34 = .ok (.iadd, 1) := by decide +kernel
theorem dX6_widthsBelow_35 : decode cX6_widthsBelow 35 = .ok (.istore_n 2, 1) := by decide +kernel
theorem dX6_widthsBelow_36 : decode cX6_widthsBelow 36 = .ok (.iinc 3 1, 3) := by decide +kernel
theorem dX6_widthsBelow_39 : decode cX6_widthsBelow 39 = .ok (.goto (-33), 3) := by decide +kernel
theorem dX6_widthsBelow_42 : decode cX6_widthsBelow 42 = .ok (.iload_n 2, 1) := by decide +kernel
theorem dX6_widthsBelow_43 : decode cX6_widthsBelow 43 = .ok (.ireturn, 1) := by decide +kernel
theorem dX6_air_0 : decode cX6_air 0 = .ok (.aload_n 0, 1) := by decide +kernel
theorem dX6_air_1 : decode cX6_air 1 = .ok (.getfield 26, 3) := by decide +kernel
theorem dX6_air_4 : decode cX6_air 4 = .ok (.istore_n 2, 1) := by decide +kernel
theorem dX6_air_5 : decode cX6_air 5 = .ok (.iconst 1, 1) := by decide +kernel
theorem dX6_air_6 : decode cX6_air 6 = .ok (.istore_n 3, 1) := by decide +kernel
theorem dX6_air_7 : decode cX6_air 7 = .ok (.iload_n 3, 1) := by decide +kernel
theorem dX6_air_8 : decode cX6_air 8 = .ok (.iload_n 1, 1) := by decide +kernel
theorem dX6_air_9 : decode cX6_air 9 = .ok (.if_icmp .gt 71, 3) := by decide +kernel
theorem dX6_air_12 : decode cX6_air 12 = .ok (.aload_n 0, 1) := by decide +kernel
theorem dX6_air_13 : decode cX6_air 13 = .ok (.iload_n 3, 1) := by decide +kernel
theorem dX6_air_14 : decode cX6_air 14 = .ok (.invokevirtual 68, 3) := by decide +kernel
theorem dX6_air_17 : decode cX6_air 17 = .ok (.istore 4, 2) := by decide +kernel
theorem dX6_air_19 : decode cX6_air 19 = .ok (.aload_n 0, 1) := by decide +kernel
theorem dX6_air_20 : decode cX6_air 20 = .ok (.getfield 22, 3) := by decide +kernel
theorem dX6_air_23 : decode cX6_air 23 = .ok (.iload_n 3, 1) := by decide +kernel
theorem dX6_air_24 : decode cX6_air 24 = .ok (.baload, 1) := by decide +kernel
theorem dX6_air_25 : decode cX6_air 25 = .ok (.ifCond .ne 7, 3) := by decide +kernel
theorem dX6_air_28 : decode cX6_air 28 = .ok (.iconst 0, 1) := by decide +kernel
theorem dX6_air_29 : decode cX6_air 29 = .ok (.goto 30, 3) := by decide +kernel
theorem dX6_air_32 : decode cX6_air 32 = .ok (.iload 4, 2) := by decide +kernel
theorem dX6_air_34 : decode cX6_air 34 = .ok (.ifCond .ne 7, 3) := by decide +kernel
theorem dX6_air_37 : decode cX6_air 37 = .ok (.iload_n 2, 1) := by decide +kernel
theorem dX6_air_38 : decode cX6_air 38 = .ok (.goto 21, 3) := by decide +kernel
theorem dX6_air_41 : decode cX6_air 41 = .ok (.iload_n 2, 1) := by decide +kernel
theorem dX6_air_42 : decode cX6_air 42 = .ok (.aload_n 0, 1) := by decide +kernel
theorem dX6_air_43 : decode cX6_air 43 = .ok (.getfield 16, 3) := by decide +kernel
theorem dX6_air_46 : decode cX6_air 46 = .ok (.iload_n 3, 1) := by decide +kernel
theorem dX6_air_47 : decode cX6_air 47 = .ok (.iaload, 1) := by decide +kernel
theorem dX6_air_48 : decode cX6_air 48 = .ok (.imul, 1) := by decide +kernel
theorem dX6_air_49 : decode cX6_air 49 = .ok (.aload_n 0, 1) := by decide +kernel
theorem dX6_air_50 : decode cX6_air 50 = .ok (.getfield 16, 3) := by decide +kernel
theorem dX6_air_53 : decode cX6_air 53 = .ok (.iload_n 3, 1) := by decide +kernel
theorem dX6_air_54 : decode cX6_air 54 = .ok (.iaload, 1) := by decide +kernel
theorem dX6_air_55 : decode cX6_air 55 = .ok (.iload 4, 2) := by decide +kernel
theorem dX6_air_57 : decode cX6_air 57 = .ok (.iadd, 1) := by decide +kernel
theorem dX6_air_58 : decode cX6_air 58 = .ok (.idiv, 1) := by decide +kernel
theorem dX6_air_59 : decode cX6_air 59 = .ok (.istore 5, 2) := by decide +kernel
theorem dX6_air_61 : decode cX6_air 61 = .ok (.iload_n 3, 1) := by decide +kernel
theorem dX6_air_62 : decode cX6_air 62 = .ok (.iload_n 1, 1) := by decide +kernel
theorem dX6_air_63 : decode cX6_air 63 = .ok (.if_icmp .ne 6, 3) := by decide +kernel
theorem dX6_air_66 : decode cX6_air 66 = .ok (.iload 5, 2) := by decide +kernel
theorem dX6_air_68 : decode cX6_air 68 = .ok (.ireturn, 1) := by decide +kernel
theorem dX6_air_69 : decode cX6_air 69 = .ok (.iload_n 2, 1) := by decide +kernel
theorem dX6_air_70 : decode cX6_air 70 = .ok (.iload 5, 2) := by decide +kernel
theorem dX6_air_72 : decode cX6_air 72 = .ok (.isub, 1) := by decide +kernel
theorem dX6_air_73 : decode cX6_air 73 = .ok (.istore_n 2, 1) := by decide +kernel
theorem dX6_air_74 : decode cX6_air 74 = .ok (.iinc 3 1, 3) := by decide +kernel
theorem dX6_air_77 : decode cX6_air 77 = .ok (.goto (-70), 3) := by decide +kernel
theorem dX6_air_80 : decode cX6_air 80 = .ok (.iconst 0, 1) := by decide +kernel
theorem dX6_air_81 : decode cX6_air 81 = .ok (.ireturn, 1) := by decide +kernel
theorem dX6_airOf_0 : decode cX6_airOf 0 = .ok (.aload_n 0, 1) := by decide +kernel
theorem dX6_airOf_1 : decode cX6_airOf 1 = .ok (.iload_n 1, 1) := by decide +kernel
theorem dX6_airOf_2 : decode cX6_airOf 2 = .ok (.invokevirtual 65, 3) := by decide +kernel
theorem dX6_airOf_5 : decode cX6_airOf 5 = .ok (.ifCond .eq 7, 3) := by decide +kernel
theorem dX6_airOf_8 : decode cX6_airOf 8 = .ok (.iconst 0, 1) := by decide +kernel
theorem dX6_airOf_9 : decode cX6_airOf 9 = .ok (.goto 8, 3) := by decide +kernel
theorem dX6_airOf_12 : decode cX6_airOf 12 = .ok (.aload_n 0, 1) := by decide +kernel
theorem dX6_airOf_13 : decode cX6_airOf 13 = .ok (.iload_n 1, 1) := by decide +kernel
theorem dX6_airOf_14 : decode cX6_airOf 14 = .ok (.invokevirtual 72, 3) := by decide +kernel
theorem dX6_airOf_17 : decode cX6_airOf 17 = .ok (.ireturn, 1) := by decide +kernel
theorem dX6_airByPaths_0 : decode cX6_airByPaths 0 = .ok (.aload_n 0, 1) := by decide +kernel
theorem dX6_airByPaths_1 : decode cX6_airByPaths 1 = .ok (.iload_n 1, 1) := by decide +kernel
theorem dX6_airByPaths_2 : decode cX6_airByPaths 2 = .ok (.invokevirtual 75, 3) := by decide +kernel
theorem dX6_airByPaths_5 : decode cX6_airByPaths 5 = .ok (.ireturn, 1) := by decide +kernel
theorem dX6_setLimit_0 : decode cX6_setLimit 0 = .ok (.aload_n 0, 1) := by decide +kernel
theorem dX6_setLimit_1 : decode cX6_setLimit 1 = .ok (.iload_n 1, 1) := by decide +kernel
theorem dX6_setLimit_2 : decode cX6_setLimit 2 = .ok (.iconst 1, 1) := by decide +kernel
theorem dX6_setLimit_3 : decode cX6_setLimit 3 = .ok (.sipush 1000, 3) := by decide +kernel
theorem dX6_setLimit_6 : decode cX6_setLimit 6 = .ok (.invokestatic 54, 3) := by decide +kernel
theorem dX6_setLimit_9 : decode cX6_setLimit 9 = .ok (.ifCond .eq 7, 3) := by decide +kernel
theorem dX6_setLimit_12 : decode cX6_setLimit 12 = .ok (.iconst 0, 1) := by decide +kernel
theorem dX6_setLimit_13 : decode cX6_setLimit 13 = .ok (.goto 4, 3) := by decide +kernel
theorem dX6_setLimit_16 : decode cX6_setLimit 16 = .ok (.iconst 1, 1) := by decide +kernel
theorem dX6_setLimit_17 : decode cX6_setLimit 17 = .ok (.putfield 48, 3) := by decide +kernel
theorem dX6_setLimit_20 : decode cX6_setLimit 20 = .ok (.aload_n 0, 1) := by decide +kernel
theorem dX6_setLimit_21 : decode cX6_setLimit 21 = .ok (.getfield 48, 3) := by decide +kernel
theorem dX6_setLimit_24 : decode cX6_setLimit 24 = .ok (.ifCond .le 5, 3) := by decide +kernel
theorem dX6_setLimit_27 : decode cX6_setLimit 27 = .ok (.iconst 0, 1) := by decide +kernel
theorem dX6_setLimit_28 : decode cX6_setLimit 28 = .ok (.ireturn, 1) := by decide +kernel
theorem dX6_setLimit_29 : decode cX6_setLimit 29 = .ok (.aload_n 0, 1) := by decide +kernel
theorem dX6_setLimit_30 : decode cX6_setLimit 30 = .ok (.getfield 30, 3) := by decide +kernel
theorem dX6_setLimit_33 : decode cX6_setLimit 33 = .ok (.istore_n 2, 1) := by decide +kernel
theorem dX6_setLimit_34 : decode cX6_setLimit 34 = .ok (.aload_n 0, 1) := by decide +kernel
theorem dX6_setLimit_35 : decode cX6_setLimit 35 = .ok (.iload_n 1, 1) := by decide +kernel
theorem dX6_setLimit_36 : decode cX6_setLimit 36 = .ok (.putfield 30, 3) := by decide +kernel
theorem dX6_setLimit_39 : decode cX6_setLimit 39 = .ok (.iload_n 2, 1) := by decide +kernel
theorem dX6_setLimit_40 : decode cX6_setLimit 40 = .ok (.ireturn, 1) := by decide +kernel
theorem dX6_gasOf_0 : decode cX6_gasOf 0 = .ok (.aload_n 0, 1) := by decide +kernel
theorem dX6_gasOf_1 : decode cX6_gasOf 1 = .ok (.iload_n 1, 1) := by decide +kernel
theorem dX6_gasOf_2 : decode cX6_gasOf 2 = .ok (.invokevirtual 65, 3) := by decide +kernel
theorem dX6_gasOf_5 : decode cX6_gasOf 5 = .ok (.ifCond .eq 7, 3) := by decide +kernel
theorem dX6_gasOf_8 : decode cX6_gasOf 8 = .ok (.iconst 0, 1) := by decide +kernel
theorem dX6_gasOf_9 : decode cX6_gasOf 9 = .ok (.goto 11, 3) := by decide +kernel
theorem dX6_gasOf_12 : decode cX6_gasOf 12 = .ok (.aload_n 0, 1) := by decide +kernel
theorem dX6_gasOf_13 : decode cX6_gasOf 13 = .ok (.getfield 36, 3) := by decide +kernel
theorem dX6_gasOf_16 : decode cX6_gasOf 16 = .ok (.iconst 0, 1) := by decide +kernel
theorem dX6_gasOf_17 : decode cX6_gasOf 17 = .ok (.iload_n 1, 1) := by decide +kernel
theorem dX6_gasOf_18 : decode cX6_gasOf 18 = .ok (.iadd, 1) := by decide +kernel
theorem dX6_gasOf_19 : decode cX6_gasOf 19 = .ok (.iaload, 1) := by decide +kernel
theorem dX6_gasOf_20 : decode cX6_gasOf 20 = .ok (.ireturn, 1) := by decide +kernel
theorem dX6_share_0 : decode cX6_share 0 = .ok (.sipush 1000, 3) := by decide +kernel
theorem dX6_share_3 : decode cX6_share 3 = .ok (.aload_n 0, 1) := by decide +kernel
theorem dX6_share_4 : decode cX6_share 4 = .ok (.getfield 36, 3) := by decide +kernel
theorem dX6_share_7 : decode cX6_share 7 = .ok (.iconst 0, 1) := by decide +kernel
theorem dX6_share_8 : decode cX6_share 8 = .ok (.iload_n 1, 1) := by decide +kernel
theorem dX6_share_9 : decode cX6_share 9 = .ok (.iadd, 1) := by decide +kernel
theorem dX6_share_10 : decode cX6_share 10 = .ok (.iaload, 1) := by decide +kernel
theorem dX6_share_11 : decode cX6_share 11 = .ok (.imul, 1) := by decide +kernel
theorem dX6_share_12 : decode cX6_share 12 = .ok (.aload_n 0, 1) := by decide +kernel
theorem dX6_share_13 : decode cX6_share 13 = .ok (.getfield 13, 3) := by decide +kernel
theorem dX6_share_16 : decode cX6_share 16 = .ok (.iload_n 1, 1) := by decide +kernel
theorem dX6_share_17 : decode cX6_share 17 = .ok (.iaload, 1) := by decide +kernel
theorem dX6_share_18 : decode cX6_share 18 = .ok (.idiv, 1) := by decide +kernel
theorem dX6_share_19 : decode cX6_share 19 = .ok (.ireturn, 1) := by decide +kernel
theorem dX6_gasShare_0 : decode cX6_gasShare 0 = .ok (.aload_n 0, 1) := by decide +kernel
theorem dX6_gasShare_1 : decode cX6_gasShare 1 = .ok (.iload_n 1, 1) := by decide +kernel
theorem dX6_gasShare_2 : decode cX6_gasShare 2 = .ok (.invokevirtual 65, 3) := by decide +kernel
theorem dX6_gasShare_5 : decode cX6_gasShare 5 = .ok (.ifCond .eq 7, 3) := by decide +kernel
theorem dX6_gasShare_8 : decode cX6_gasShare 8 = .ok (.iconst 0, 1) := by decide +kernel
theorem dX6_gasShare_9 : decode cX6_gasShare 9 = .ok (.goto 8, 3) := by decide +kernel
theorem dX6_gasShare_12 : decode cX6_gasShare 12 = .ok (.aload_n 0, 1) := by decide +kernel
theorem dX6_gasShare_13 : decode cX6_gasShare 13 = .ok (.iload_n 1, 1) := by decide +kernel
theorem dX6_gasShare_14 : decode cX6_gasShare 14 = .ok (.invokevirtual 78, 3) := by decide +kernel
theorem dX6_gasShare_17 : decode cX6_gasShare 17 = .ok (.ireturn, 1) := by decide +kernel
theorem dX6_alarms_0 : decode cX6_alarms 0 = .ok (.aload_n 0, 1) := by decide +kernel
theorem dX6_alarms_1 : decode cX6_alarms 1 = .ok (.iload_n 1, 1) := by decide +kernel
theorem dX6_alarms_2 : decode cX6_alarms 2 = .ok (.invokevirtual 78, 3) := by decide +kernel
theorem dX6_alarms_5 : decode cX6_alarms 5 = .ok (.aload_n 0, 1) := by decide +kernel
theorem dX6_alarms_6 : decode cX6_alarms 6 = .ok (.getfield 30, 3) := by decide +kernel
theorem dX6_alarms_9 : decode cX6_alarms 9 = .ok (.if_icmp .lt 7, 3) := by decide +kernel
theorem dX6_alarms_12 : decode cX6_alarms 12 = .ok (.iconst 1, 1) := by decide +kernel
theorem dX6_alarms_13 : decode cX6_alarms 13 = .ok (.goto 4, 3) := by decide +kernel
theorem dX6_alarms_16 : decode cX6_alarms 16 = .ok (.iconst 0, 1) := by decide +kernel
theorem dX6_alarms_17 : decode cX6_alarms 17 = .ok (.ireturn, 1) := by decide +kernel
theorem dX6_isAlarm_0 : decode cX6_isAlarm 0 = .ok (.aload_n 0, 1) := by decide +kernel
theorem dX6_isAlarm_1 : decode cX6_isAlarm 1 = .ok (.iload_n 1, 1) := by decide +kernel
theorem dX6_isAlarm_2 : decode cX6_isAlarm 2 = .ok (.invokevirtual 65, 3) := by decide +kernel
theorem dX6_isAlarm_5 : decode cX6_isAlarm 5 = .ok (.ifCond .ne 15, 3) := by decide +kernel
theorem dX6_isAlarm_8 : decode cX6_isAlarm 8 = .ok (.aload_n 0, 1) := by decide +kernel
theorem dX6_isAlarm_9 : decode cX6_isAlarm 9 = .ok (.iload_n 1, 1) := by decide +kernel
theorem dX6_isAlarm_10 : decode cX6_isAlarm 10 = .ok (.invokevirtual 81, 3) := by decide +kernel
theorem dX6_isAlarm_13 : decode cX6_isAlarm 13 = .ok (.ifCond .eq 7, 3) := by decide +kernel
theorem dX6_isAlarm_16 : decode cX6_isAlarm 16 = .ok (.iconst 1, 1) := by decide +kernel
theorem dX6_isAlarm_17 : decode cX6_isAlarm 17 = .ok (.goto 4, 3) := by decide +kernel
theorem dX6_isAlarm_20 : decode cX6_isAlarm 20 = .ok (.iconst 0, 1) := by decide +kernel
theorem dX6_isAlarm_21 : decode cX6_isAlarm 21 = .ok (.ireturn, 1) := by decide +kernel
theorem dX6_gasTotal_0 : decode cX6_gasTotal 0 = .ok (.aload_n 0, 1) := by decide +kernel
theorem dX6_gasTotal_1 : decode cX6_gasTotal 1 = .ok (.iconst 0, 1) := by decide +kernel
theorem dX6_gasTotal_2 : decode cX6_gasTotal 2 = .ok (.putfield 48, 3) := by decide +kernel
theorem dX6_gasTotal_5 : decode cX6_gasTotal 5 = .ok (.aload_n 0, 1) := by decide +kernel
theorem dX6_gasTotal_6 : decode cX6_gasTotal 6 = .ok (.getfield 36, 3) := by decide +kernel
theorem dX6_gasTotal_9 : decode cX6_gasTotal 9 = .ok (.bipush 70, 2) := by decide +kernel
theorem dX6_gasTotal_11 : decode cX6_gasTotal 11 = .ok (.iaload, 1) := by decide +kernel
theorem dX6_gasTotal_12 : decode cX6_gasTotal 12 = .ok (.ireturn, 1) := by decide +kernel
theorem dX6_ventedTotal_0 : decode cX6_ventedTotal 0 = .ok (.aload_n 0, 1) := by decide +kernel
theorem dX6_ventedTotal_1 : decode cX6_ventedTotal 1 = .ok (.iconst 0, 1) := by decide +kernel
theorem dX6_ventedTotal_2 : decode cX6_ventedTotal 2 = .ok (.putfield 48, 3) := by decide +kernel
theorem dX6_ventedTotal_5 : decode cX6_ventedTotal 5 = .ok (.aload_n 0, 1) := by decide +kernel
theorem dX6_ventedTotal_6 : decode cX6_ventedTotal 6 = .ok (.getfield 36, 3) := by decide +kernel
theorem dX6_ventedTotal_9 : decode cX6_ventedTotal 9 = .ok (.bipush 71, 2) := by decide +kernel
theorem dX6_ventedTotal_11 : decode cX6_ventedTotal 11 = .ok (.iaload, 1) := by decide +kernel
theorem dX6_ventedTotal_12 : decode cX6_ventedTotal 12 = .ok (.ireturn, 1) := by decide +kernel
theorem dX6_meanShare_0 : decode cX6_meanShare 0 = .ok (.aload_n 0, 1) := by decide +kernel
theorem dX6_meanShare_1 : decode cX6_meanShare 1 = .ok (.aload_n 0, 1) := by decide +kernel
theorem dX6_meanShare_2 : decode cX6_meanShare 2 = .ok (.getfield 51, 3) := by decide +kernel
theorem dX6_meanShare_5 : decode cX6_meanShare 5 = .ok (.ifCond .ne 7, 3) := by decide +kernel
theorem dX6_meanShare_8 : decode cX6_meanShare 8 = .ok (.iconst 1, 1) := by decide +kernel
theorem dX6_meanShare_9 : decode cX6_meanShare 9 = .ok (.goto 4, 3) := by decide +kernel
theorem dX6_meanShare_12 : decode cX6_meanShare 12 = .ok (.iconst 0, 1) := by decide +kernel
theorem dX6_meanShare_13 : decode cX6_meanShare 13 = .ok (.putfield 48, 3) := by decide +kernel
theorem dX6_meanShare_16 : decode cX6_meanShare 16 = .ok (.iconst 0, 1) := by decide +kernel
theorem dX6_meanShare_17 : decode cX6_meanShare 17 = .ok (.istore_n 1, 1) := by decide +kernel
theorem dX6_meanShare_18 : decode cX6_meanShare 18 = .ok (.iconst 1, 1) := by decide +kernel
theorem dX6_meanShare_19 : decode cX6_meanShare 19 = .ok (.istore_n 2, 1) := by decide +kernel
theorem dX6_meanShare_20 : decode cX6_meanShare 20 = .ok (.iload_n 2, 1) := by decide +kernel
theorem dX6_meanShare_21 : decode cX6_meanShare 21 = .ok (.aload_n 0, 1) := by decide +kernel
theorem dX6_meanShare_22 : decode cX6_meanShare 22 = .ok (.getfield 51, 3) := by decide +kernel
theorem dX6_meanShare_25 : decode cX6_meanShare 25 = .ok (.if_icmp .gt 17, 3) := by decide +kernel
theorem dX6_meanShare_28 : decode cX6_meanShare 28 = .ok (.iload_n 1, 1) := by decide +kernel
theorem dX6_meanShare_29 : decode cX6_meanShare 29 = .ok (.aload_n 0, 1) := by decide +kernel
theorem dX6_meanShare_30 : decode cX6_meanShare 30 = .ok (.iload_n 2, 1) := by decide +kernel
theorem dX6_meanShare_31 : decode cX6_meanShare 31 = .ok (.invokevirtual 78, 3) := by decide +kernel
theorem dX6_meanShare_34 : decode cX6_meanShare 34 = .ok (.iadd, 1) := by decide +kernel
theorem dX6_meanShare_35 : decode cX6_meanShare 35 = .ok (.istore_n 1, 1) := by decide +kernel
theorem dX6_meanShare_36 : decode cX6_meanShare 36 = .ok (.iinc 2 1, 3) := by decide +kernel
theorem dX6_meanShare_39 : decode cX6_meanShare 39 = .ok (.goto (-19), 3) := by decide +kernel
theorem dX6_meanShare_42 : decode cX6_meanShare 42 = .ok (.aload_n 0, 1) := by decide +kernel
theorem dX6_meanShare_43 : decode cX6_meanShare 43 = .ok (.getfield 48, 3) := by decide +kernel
theorem dX6_meanShare_46 : decode cX6_meanShare 46 = .ok (.ifCond .le 7, 3) := by decide +kernel
theorem dX6_meanShare_49 : decode cX6_meanShare 49 = .ok (.dconst 0, 1) := by decide +kernel
theorem dX6_meanShare_50 : decode cX6_meanShare 50 = .ok (.goto 11, 3) := by decide +kernel
theorem dX6_meanShare_53 : decode cX6_meanShare 53 = .ok (.iload_n 1, 1) := by decide +kernel
theorem dX6_meanShare_54 : decode cX6_meanShare 54 = .ok (.i2d, 1) := by decide +kernel
theorem dX6_meanShare_55 : decode cX6_meanShare 55 = .ok (.aload_n 0, 1) := by decide +kernel
theorem dX6_meanShare_56 : decode cX6_meanShare 56 = .ok (.getfield 51, 3) := by decide +kernel
theorem dX6_meanShare_59 : decode cX6_meanShare 59 = .ok (.i2d, 1) := by decide +kernel
theorem dX6_meanShare_60 : decode cX6_meanShare 60 = .ok (.ddiv, 1) := by decide +kernel
theorem dX6_meanShare_61 : decode cX6_meanShare 61 = .ok (.dreturn, 1) := by decide +kernel
theorem dX6_keeps_0 : decode cX6_keeps 0 = .ok (.iconst 0, 1) := by decide +kernel
theorem dX6_keeps_1 : decode cX6_keeps 1 = .ok (.istore_n 1, 1) := by decide +kernel
theorem dX6_keeps_2 : decode cX6_keeps 2 = .ok (.iload_n 1, 1) := by decide +kernel
theorem dX6_keeps_3 : decode cX6_keeps 3 = .ok (.bipush 73, 2) := by decide +kernel
theorem dX6_keeps_5 : decode cX6_keeps 5 = .ok (.if_icmp .ge 21, 3) := by decide +kernel
theorem dX6_keeps_8 : decode cX6_keeps 8 = .ok (.aload_n 0, 1) := by decide +kernel
theorem dX6_keeps_9 : decode cX6_keeps 9 = .ok (.getfield 39, 3) := by decide +kernel
theorem dX6_keeps_12 : decode cX6_keeps 12 = .ok (.iload_n 1, 1) := by decide +kernel
theorem dX6_keeps_13 : decode cX6_keeps 13 = .ok (.aload_n 0, 1) := by decide +kernel
theorem dX6_keeps_14 : decode cX6_keeps 14 = .ok (.getfield 36, 3) := by decide +kernel
theorem dX6_keeps_17 : decode cX6_keeps 17 = .ok (.iload_n 1, 1) := by decide +kernel
theorem dX6_keeps_18 : decode cX6_keeps 18 = .ok (.iaload, 1) := by decide +kernel
theorem dX6_keeps_19 : decode cX6_keeps 19 = .ok (.iastore, 1) := by decide +kernel
theorem dX6_keeps_20 : decode cX6_keeps 20 = .ok (.iinc 1 1, 3) := by decide +kernel
theorem dX6_keeps_23 : decode cX6_keeps 23 = .ok (.goto (-21), 3) := by decide +kernel
theorem dX6_keeps_26 : decode cX6_keeps 26 = .ok (.return_, 1) := by decide +kernel
theorem dX6_goesBack_0 : decode cX6_goesBack 0 = .ok (.iconst 0, 1) := by decide +kernel
theorem dX6_goesBack_1 : decode cX6_goesBack 1 = .ok (.istore_n 1, 1) := by decide +kernel
theorem dX6_goesBack_2 : decode cX6_goesBack 2 = .ok (.iload_n 1, 1) := by decide +kernel
theorem dX6_goesBack_3 : decode cX6_goesBack 3 = .ok (.bipush 73, 2) := by decide +kernel
theorem dX6_goesBack_5 : decode cX6_goesBack 5 = .ok (.if_icmp .ge 21, 3) := by decide +kernel
theorem dX6_goesBack_8 : decode cX6_goesBack 8 = .ok (.aload_n 0, 1) := by decide +kernel
theorem dX6_goesBack_9 : decode cX6_goesBack 9 = .ok (.getfield 36, 3) := by decide +kernel
theorem dX6_goesBack_12 : decode cX6_goesBack 12 = .ok (.iload_n 1, 1) := by decide +kernel
theorem dX6_goesBack_13 : decode cX6_goesBack 13 = .ok (.aload_n 0, 1) := by decide +kernel
theorem dX6_goesBack_14 : decode cX6_goesBack 14 = .ok (.getfield 39, 3) := by decide +kernel
theorem dX6_goesBack_17 : decode cX6_goesBack 17 = .ok (.iload_n 1, 1) := by decide +kernel
theorem dX6_goesBack_18 : decode cX6_goesBack 18 = .ok (.iaload, 1) := by decide +kernel
theorem dX6_goesBack_19 : decode cX6_goesBack 19 = .ok (.iastore, 1) := by decide +kernel
theorem dX6_goesBack_20 : decode cX6_goesBack 20 = .ok (.iinc 1 1, 3) := by decide +kernel
theorem dX6_goesBack_23 : decode cX6_goesBack 23 = .ok (.goto (-21), 3) := by decide +kernel
theorem dX6_goesBack_26 : decode cX6_goesBack 26 = .ok (.return_, 1) := by decide +kernel
theorem dX6_minutesToAlarm_0 : decode cX6_minutesToAlarm 0 = .ok (.aload_n 0, 1) := by decide +kernel
theorem dX6_minutesToAlarm_1 : decode cX6_minutesToAlarm 1 = .ok (.iload_n 1, 1) := by decide +kernel
theorem dX6_minutesToAlarm_2 : decode cX6_minutesToAlarm 2 = .ok (.invokevirtual 65, 3) := by decide +kernel
theorem dX6_minutesToAlarm_5 : decode cX6_minutesToAlarm 5 = .ok (.ifCond .eq 5, 3) := by decide +kernel
theorem dX6_minutesToAlarm_8 : decode cX6_minutesToAlarm 8 = .ok (.iconst 0, 1) := by decide +kernel
theorem dX6_minutesToAlarm_9 : decode cX6_minutesToAlarm 9 = .ok (.ireturn, 1) := by decide +kernel
theorem dX6_minutesToAlarm_10 : decode cX6_minutesToAlarm 10 = .ok (.aload_n 0, 1) := by decide +kernel
theorem dX6_minutesToAlarm_11 : decode cX6_minutesToAlarm 11 = .ok (.invokevirtual 84, 3) := by decide +kernel
theorem dX6_minutesToAlarm_14 : decode cX6_minutesToAlarm 14 = .ok (.iconst 0, 1) := by decide +kernel
theorem dX6_minutesToAlarm_15 : decode cX6_minutesToAlarm 15 = .ok (.istore_n 2, 1) := by decide +kernel
theorem dX6_minutesToAlarm_16 : decode cX6_minutesToAlarm 16 = .ok (.iload_n 2, 1) := by decide +kernel
theorem dX6_minutesToAlarm_17 : decode cX6_minutesToAlarm 17 = .ok (.sipush 500, 3) := by decide +kernel
theorem dX6_minutesToAlarm_20 : decode cX6_minutesToAlarm 20 = .ok (.if_icmp .ge 21, 3) := by decide +kernel
theorem dX6_minutesToAlarm_23 : decode cX6_minutesToAlarm 23 = .ok (.aload_n 0, 1) := by decide +kernel
theorem dX6_minutesToAlarm_24 : decode cX6_minutesToAlarm 24 = .ok (.iload_n 1, 1) := by decide +kernel
theorem dX6_minutesToAlarm_25 : decode cX6_minutesToAlarm 25 = .ok (.invokevirtual 81, 3) := by decide +kernel
theorem dX6_minutesToAlarm_28 : decode cX6_minutesToAlarm 28 = .ok (.ifCond .ne 13, 3) := by decide +kernel
theorem dX6_minutesToAlarm_31 : decode cX6_minutesToAlarm 31 = .ok (.aload_n 0, 1) := by decide +kernel
theorem dX6_minutesToAlarm_32 : decode cX6_minutesToAlarm 32 = .ok (.invokevirtual 87, 3) := by decide +kernel
theorem dX6_minutesToAlarm_35 : decode cX6_minutesToAlarm 35 = .ok (.iinc 2 1, 3) := by decide +kernel
theorem dX6_minutesToAlarm_38 : decode cX6_minutesToAlarm 38 = .ok (.goto (-22), 3) := by decide +kernel
theorem dX6_minutesToAlarm_41 : decode cX6_minutesToAlarm 41 = .ok (.aload_n 0, 1) := by decide +kernel
theorem dX6_minutesToAlarm_42 : decode cX6_minutesToAlarm 42 = .ok (.iload_n 1, 1) := by decide +kernel
theorem dX6_minutesToAlarm_43 : decode cX6_minutesToAlarm 43 = .ok (.invokevirtual 81, 3) := by decide +kernel
theorem dX6_minutesToAlarm_46 : decode cX6_minutesToAlarm 46 = .ok (.istore_n 3, 1) := by decide +kernel
theorem dX6_minutesToAlarm_47 : decode cX6_minutesToAlarm 47 = .ok (.aload_n 0, 1) := by decide +kernel
theorem dX6_minutesToAlarm_48 : decode cX6_minutesToAlarm 48 = .ok (.invokevirtual 90, 3) := by decide +kernel
theorem dX6_minutesToAlarm_51 : decode cX6_minutesToAlarm 51 = .ok (.iload_n 3, 1) := by decide +kernel
theorem dX6_minutesToAlarm_52 : decode cX6_minutesToAlarm 52 = .ok (.ifCond .eq 7, 3) := by decide +kernel
theorem dX6_minutesToAlarm_55 : decode cX6_minutesToAlarm 55 = .ok (.iload_n 2, 1) := by decide +kernel
theorem dX6_minutesToAlarm_56 : decode cX6_minutesToAlarm 56 = .ok (.goto 8, 3) := by decide +kernel
theorem dX6_minutesToAlarm_59 : decode cX6_minutesToAlarm 59 = .ok (.aload_n 0, 1) := by decide +kernel
theorem dX6_minutesToAlarm_60 : decode cX6_minutesToAlarm 60 = .ok (.iconst 2, 1) := by decide +kernel
theorem dX6_minutesToAlarm_61 : decode cX6_minutesToAlarm 61 = .ok (.invokevirtual 93, 3) := by decide +kernel
theorem dX6_minutesToAlarm_64 : decode cX6_minutesToAlarm 64 = .ok (.ireturn, 1) := by decide +kernel
theorem dX6_hire_0 : decode cX6_hire 0 = .ok (.aload_n 0, 1) := by decide +kernel
theorem dX6_hire_1 : decode cX6_hire 1 = .ok (.iload_n 1, 1) := by decide +kernel
theorem dX6_hire_2 : decode cX6_hire 2 = .ok (.iconst 1, 1) := by decide +kernel
theorem dX6_hire_3 : decode cX6_hire 3 = .ok (.bipush 99, 2) := by decide +kernel
theorem dX6_hire_5 : decode cX6_hire 5 = .ok (.invokestatic 54, 3) := by decide +kernel
theorem dX6_hire_8 : decode cX6_hire 8 = .ok (.ifCond .ne 7, 3) := by decide +kernel
theorem dX6_hire_11 : decode cX6_hire 11 = .ok (.iconst 1, 1) := by decide +kernel
theorem dX6_hire_12 : decode cX6_hire 12 = .ok (.goto 20, 3) := by decide +kernel
theorem dX6_hire_15 : decode cX6_hire 15 = .ok (.aload_n 0, 1) := by decide +kernel
theorem dX6_hire_16 : decode cX6_hire 16 = .ok (.getfield 96, 3) := by decide +kernel
theorem dX6_hire_19 : decode cX6_hire 19 = .ok (.iload_n 1, 1) := by decide +kernel
theorem dX6_hire_20 : decode cX6_hire 20 = .ok (.iadd, 1) := by decide +kernel
theorem dX6_hire_21 : decode cX6_hire 21 = .ok (.sipush 200, 3) := by decide +kernel
theorem dX6_hire_24 : decode cX6_hire 24 = .ok (.if_icmp .le 7, 3) := by decide +kernel
theorem dX6_hire_27 : decode cX6_hire 27 = .ok (.iconst 2, 1) := by decide +kernel
theorem dX6_hire_28 : decode cX6_hire 28 = .ok (.goto 4, 3) := by decide +kernel
theorem dX6_hire_31 : decode cX6_hire 31 = .ok (.iconst 0, 1) := by decide +kernel
theorem dX6_hire_32 : decode cX6_hire 32 = .ok (.putfield 48, 3) := by decide +kernel
theorem dX6_hire_35 : decode cX6_hire 35 = .ok (.aload_n 0, 1) := by decide +kernel
theorem dX6_hire_36 : decode cX6_hire 36 = .ok (.getfield 48, 3) := by decide +kernel
theorem dX6_hire_39 : decode cX6_hire 39 = .ok (.ifCond .le 5, 3) := by decide +kernel
theorem dX6_hire_42 : decode cX6_hire 42 = .ok (.iconst 0, 1) := by decide +kernel
theorem dX6_hire_43 : decode cX6_hire 43 = .ok (.ireturn, 1) := by decide +kernel
theorem dX6_hire_44 : decode cX6_hire 44 = .ok (.aload_n 0, 1) := by decide +kernel
theorem dX6_hire_45 : decode cX6_hire 45 = .ok (.dup, 1) := by decide +kernel
theorem dX6_hire_46 : decode cX6_hire 46 = .ok (.getfield 96, 3) := by decide +kernel
theorem dX6_hire_49 : decode cX6_hire 49 = .ok (.iload_n 1, 1) := by decide +kernel
theorem dX6_hire_50 : decode cX6_hire 50 = .ok (.iadd, 1) := by decide +kernel
theorem dX6_hire_51 : decode cX6_hire 51 = .ok (.putfield 96, 3) := by decide +kernel
theorem dX6_hire_54 : decode cX6_hire 54 = .ok (.aload_n 0, 1) := by decide +kernel
theorem dX6_hire_55 : decode cX6_hire 55 = .ok (.getfield 36, 3) := by decide +kernel
theorem dX6_hire_58 : decode cX6_hire 58 = .ok (.bipush 7, 2) := by decide +kernel
theorem dX6_hire_60 : decode cX6_hire 60 = .ok (.dup2, 1) := by decide +kernel
theorem dX6_hire_61 : decode cX6_hire 61 = .ok (.iaload, 1) := by decide +kernel
theorem dX6_hire_62 : decode cX6_hire 62 = .ok (.iload_n 1, 1) := by decide +kernel
theorem dX6_hire_63 : decode cX6_hire 63 = .ok (.iadd, 1) := by decide +kernel
theorem dX6_hire_64 : decode cX6_hire 64 = .ok (.iastore, 1) := by decide +kernel
theorem dX6_hire_65 : decode cX6_hire 65 = .ok (.aload_n 0, 1) := by decide +kernel
theorem dX6_hire_66 : decode cX6_hire 66 = .ok (.getfield 36, 3) := by decide +kernel
theorem dX6_hire_69 : decode cX6_hire 69 = .ok (.bipush 7, 2) := by decide +kernel
theorem dX6_hire_71 : decode cX6_hire 71 = .ok (.iaload, 1) := by decide +kernel
theorem dX6_hire_72 : decode cX6_hire 72 = .ok (.ireturn, 1) := by decide +kernel
theorem dX6_peopleAt_0 : decode cX6_peopleAt 0 = .ok (.aload_n 0, 1) := by decide +kernel
theorem dX6_peopleAt_1 : decode cX6_peopleAt 1 = .ok (.iload_n 1, 1) := by decide +kernel
theorem dX6_peopleAt_2 : decode cX6_peopleAt 2 = .ok (.invokevirtual 62, 3) := by decide +kernel
theorem dX6_peopleAt_5 : decode cX6_peopleAt 5 = .ok (.ifCond .eq 7, 3) := by decide +kernel
theorem dX6_peopleAt_8 : decode cX6_peopleAt 8 = .ok (.iconst 0, 1) := by decide +kernel
theorem dX6_peopleAt_9 : decode cX6_peopleAt 9 = .ok (.goto 12, 3) := by decide +kernel
theorem dX6_peopleAt_12 : decode cX6_peopleAt 12 = .ok (.aload_n 0, 1) := by decide +kernel
theorem dX6_peopleAt_13 : decode cX6_peopleAt 13 = .ok (.getfield 36, 3) := by decide +kernel
theorem dX6_peopleAt_16 : decode cX6_peopleAt 16 = .ok (.bipush 7, 2) := by decide +kernel
theorem dX6_peopleAt_18 : decode cX6_peopleAt 18 = .ok (.iload_n 1, 1) := by decide +kernel
theorem dX6_peopleAt_19 : decode cX6_peopleAt 19 = .ok (.iadd, 1) := by decide +kernel
theorem dX6_peopleAt_20 : decode cX6_peopleAt 20 = .ok (.iaload, 1) := by decide +kernel
theorem dX6_peopleAt_21 : decode cX6_peopleAt 21 = .ok (.ireturn, 1) := by decide +kernel
theorem dX6_peopleTotal_0 : decode cX6_peopleTotal 0 = .ok (.aload_n 0, 1) := by decide +kernel
theorem dX6_peopleTotal_1 : decode cX6_peopleTotal 1 = .ok (.iconst 0, 1) := by decide +kernel
theorem dX6_peopleTotal_2 : decode cX6_peopleTotal 2 = .ok (.putfield 48, 3) := by decide +kernel
theorem dX6_peopleTotal_5 : decode cX6_peopleTotal 5 = .ok (.aload_n 0, 1) := by decide +kernel
theorem dX6_peopleTotal_6 : decode cX6_peopleTotal 6 = .ok (.getfield 96, 3) := by decide +kernel
theorem dX6_peopleTotal_9 : decode cX6_peopleTotal 9 = .ok (.ireturn, 1) := by decide +kernel
theorem dX6_endangered_0 : decode cX6_endangered 0 = .ok (.aload_n 0, 1) := by decide +kernel
theorem dX6_endangered_1 : decode cX6_endangered 1 = .ok (.iconst 0, 1) := by decide +kernel
theorem dX6_endangered_2 : decode cX6_endangered 2 = .ok (.putfield 48, 3) := by decide +kernel
theorem dX6_endangered_5 : decode cX6_endangered 5 = .ok (.iconst 0, 1) := by decide +kernel
theorem dX6_endangered_6 : decode cX6_endangered 6 = .ok (.istore_n 1, 1) := by decide +kernel
theorem dX6_endangered_7 : decode cX6_endangered 7 = .ok (.iconst 1, 1) := by decide +kernel
theorem dX6_endangered_8 : decode cX6_endangered 8 = .ok (.istore_n 2, 1) := by decide +kernel
theorem dX6_endangered_9 : decode cX6_endangered 9 = .ok (.iload_n 2, 1) := by decide +kernel
theorem dX6_endangered_10 : decode cX6_endangered 10 = .ok (.aload_n 0, 1) := by decide +kernel
theorem dX6_endangered_11 : decode cX6_endangered 11 = .ok (.getfield 51, 3) := by decide +kernel
theorem dX6_endangered_14 : decode cX6_endangered 14 = .ok (.if_icmp .gt 33, 3) := by decide +kernel
theorem dX6_endangered_17 : decode cX6_endangered 17 = .ok (.iload_n 1, 1) := by decide +kernel
theorem dX6_endangered_18 : decode cX6_endangered 18 = .ok (.aload_n 0, 1) := by decide +kernel
theorem dX6_endangered_19 : decode cX6_endangered 19 = .ok (.iload_n 2, 1) := by decide +kernel
theorem dX6_endangered_20 : decode cX6_endangered 20 = .ok (.invokevirtual 81, 3) := by decide +kernel
theorem dX6_endangered_23 : decode cX6_endangered 23 = .ok (.ifCond .eq 15, 3) := by decide +kernel
theorem dX6_endangered_26 : decode cX6_endangered 26 = .ok (.aload_n 0, 1) := by decide +kernel
theorem dX6_endangered_27 : decode cX6_endangered 27 = .ok (.getfield 36, 3) := by decide +kernel
theorem dX6_endangered_30 : decode cX6_endangered 30 = .ok (.bipush 7, 2) := by decide +kernel
theorem dX6_endangered_32 : decode cX6_endangered 32 = .ok (.iload_n 2, 1) := by decide +kernel
theorem dX6_endangered_33 : decode cX6_endangered 33 = .ok (.iadd, 1) := by decide +kernel
theorem dX6_endangered_34 : decode cX6_endangered 34 = .ok (.iaload, 1) := by decide +kernel
theorem dX6_endangered_35 : decode cX6_endangered 35 = .ok (.goto 4, 3) := by decide +kernel
theorem dX6_endangered_38 : decode cX6_endangered 38 = .ok (.iconst 0, 1) := by decide +kernel
theorem dX6_endangered_39 : decode cX6_endangered 39 = .ok (.iadd, 1) := by decide +kernel
theorem dX6_endangered_40 : decode cX6_endangered 40 = .ok (.istore_n 1, 1) := by decide +kernel
theorem dX6_endangered_41 : decode cX6_endangered 41 = .ok (.iinc 2 1, 3) := by decide +kernel
theorem dX6_endangered_44 : decode cX6_endangered 44 = .ok (.goto (-35), 3) := by decide +kernel
theorem dX6_endangered_47 : decode cX6_endangered 47 = .ok (.iload_n 1, 1) := by decide +kernel
theorem dX6_endangered_48 : decode cX6_endangered 48 = .ok (.ireturn, 1) := by decide +kernel
theorem dX6_oreAt_0 : decode cX6_oreAt 0 = .ok (.aload_n 0, 1) := by decide +kernel
theorem dX6_oreAt_1 : decode cX6_oreAt 1 = .ok (.iload_n 1, 1) := by decide +kernel
theorem dX6_oreAt_2 : decode cX6_oreAt 2 = .ok (.invokevirtual 62, 3) := by decide +kernel
theorem dX6_oreAt_5 : decode cX6_oreAt 5 = .ok (.ifCond .eq 7, 3) := by decide +kernel
theorem dX6_oreAt_8 : decode cX6_oreAt 8 = .ok (.iconst 0, 1) := by decide +kernel
theorem dX6_oreAt_9 : decode cX6_oreAt 9 = .ok (.goto 12, 3) := by decide +kernel
theorem dX6_oreAt_12 : decode cX6_oreAt 12 = .ok (.aload_n 0, 1) := by decide +kernel
theorem dX6_oreAt_13 : decode cX6_oreAt 13 = .ok (.getfield 36, 3) := by decide +kernel
theorem dX6_oreAt_16 : decode cX6_oreAt 16 = .ok (.bipush 14, 2) := by decide +kernel
theorem dX6_oreAt_18 : decode cX6_oreAt 18 = .ok (.iload_n 1, 1) := by decide +kernel
theorem dX6_oreAt_19 : decode cX6_oreAt 19 = .ok (.iadd, 1) := by decide +kernel
theorem dX6_oreAt_20 : decode cX6_oreAt 20 = .ok (.iaload, 1) := by decide +kernel
theorem dX6_oreAt_21 : decode cX6_oreAt 21 = .ok (.ireturn, 1) := by decide +kernel
theorem dX6_closed_0 : decode cX6_closed 0 = .ok (.aload_n 0, 1) := by decide +kernel
theorem dX6_closed_1 : decode cX6_closed 1 = .ok (.getfield 36, 3) := by decide +kernel
theorem dX6_closed_4 : decode cX6_closed 4 = .ok (.bipush 61, 2) := by decide +kernel
theorem dX6_closed_6 : decode cX6_closed 6 = .ok (.iaload, 1) := by decide +kernel
theorem dX6_closed_7 : decode cX6_closed 7 = .ok (.aload_n 0, 1) := by decide +kernel
theorem dX6_closed_8 : decode cX6_closed 8 = .ok (.getfield 36, 3) := by decide +kernel
theorem dX6_closed_11 : decode cX6_closed 11 = .ok (.bipush 21, 2) := by decide +kernel
theorem dX6_closed_13 : decode cX6_closed 13 = .ok (.iload_n 1, 1) := by decide +kernel
theorem dX6_closed_14 : decode cX6_closed 14 = .ok (.iadd, 1) := by decide +kernel
theorem dX6_closed_15 : decode cX6_closed 15 = .ok (.iaload, 1) := by decide +kernel
theorem dX6_closed_16 : decode cX6_closed 16 = .ok (.if_icmp .ge 7, 3) := by decide +kernel
theorem dX6_closed_19 : decode cX6_closed 19 = .ok (.iconst 1, 1) := by decide +kernel
theorem dX6_closed_20 : decode cX6_closed 20 = .ok (.goto 4, 3) := by decide +kernel
theorem dX6_closed_23 : decode cX6_closed 23 = .ok (.iconst 0, 1) := by decide +kernel
theorem dX6_closed_24 : decode cX6_closed 24 = .ok (.ireturn, 1) := by decide +kernel
theorem dX6_blast_0 : decode cX6_blast 0 = .ok (.aload_n 0, 1) := by decide +kernel
theorem dX6_blast_1 : decode cX6_blast 1 = .ok (.aload_n 0, 1) := by decide +kernel
theorem dX6_blast_2 : decode cX6_blast 2 = .ok (.iload_n 1, 1) := by decide +kernel
theorem dX6_blast_3 : decode cX6_blast 3 = .ok (.invokevirtual 58, 3) := by decide +kernel
theorem dX6_blast_6 : decode cX6_blast 6 = .ok (.ifCond .ne 7, 3) := by decide +kernel
theorem dX6_blast_9 : decode cX6_blast 9 = .ok (.iconst 1, 1) := by decide +kernel
theorem dX6_blast_10 : decode cX6_blast 10 = .ok (.goto 69, 3) := by decide +kernel
theorem dX6_blast_13 : decode cX6_blast 13 = .ok (.iload_n 2, 1) := by decide +kernel
theorem dX6_blast_14 : decode cX6_blast 14 = .ok (.iconst 1, 1) := by decide +kernel
theorem dX6_blast_15 : decode cX6_blast 15 = .ok (.bipush 20, 2) := by decide +kernel
theorem dX6_blast_17 : decode cX6_blast 17 = .ok (.invokestatic 54, 3) := by decide +kernel
theorem dX6_blast_20 : decode cX6_blast 20 = .ok (.ifCond .ne 7, 3) := by decide +kernel
theorem dX6_blast_23 : decode cX6_blast 23 = .ok (.iconst 2, 1) := by decide +kernel
theorem dX6_blast_24 : decode cX6_blast 24 = .ok (.goto 55, 3) := by decide +kernel
theorem dX6_blast_27 : decode cX6_blast 27 = .ok (.aload_n 0, 1) := by decide +kernel
theorem dX6_blast_28 : decode cX6_blast 28 = .ok (.iload_n 1, 1) := by decide +kernel
theorem dX6_blast_29 : decode cX6_blast 29 = .ok (.invokevirtual 99, 3) := by decide +kernel
theorem dX6_blast_32 : decode cX6_blast 32 = .ok (.ifCond .eq 7, 3) := by decide +kernel
theorem dX6_blast_35 : decode cX6_blast 35 = .ok (.iconst 3, 1) := by decide +kernel
theorem dX6_blast_36 : decode cX6_blast 36 = .ok (.goto 43, 3) := by decide +kernel
theorem dX6_blast_39 : decode cX6_blast 39 = .ok (.aload_n 0, 1) := by decide +kernel
theorem dX6_blast_40 : decode cX6_blast 40 = .ok (.getfield 36, 3) := by decide +kernel
theorem dX6_blast_43 : decode cX6_blast 43 = .ok (.bipush 7, 2) := by decide +kernel
theorem dX6_blast_45 : decode cX6_blast 45 = .ok (.iload_n 1, 1) := by decide +kernel
theorem dX6_blast_46 : decode cX6_blast 46 = .ok (.iadd, 1) := by decide +kernel
theorem dX6_blast_47 : decode cX6_blast 47 = .ok (.iaload, 1) := by decide +kernel
theorem dX6_blast_48 : decode cX6_blast 48 = .ok (.ifCond .gt 26, 3) := by decide +kernel
theorem dX6_blast_51 : decode cX6_blast 51 = .ok (.aload_n 0, 1) := by decide +kernel
theorem dX6_blast_52 : decode cX6_blast 52 = .ok (.getfield 36, 3) := by decide +kernel
theorem dX6_blast_55 : decode cX6_blast 55 = .ok (.bipush 63, 2) := by decide +kernel
theorem dX6_blast_57 : decode cX6_blast 57 = .ok (.iaload, 1) := by decide +kernel
theorem dX6_blast_58 : decode cX6_blast 58 = .ok (.bipush 45, 2) := by decide +kernel
theorem dX6_blast_60 : decode cX6_blast 60 = .ok (.if_icmp .eq 18, 3) := by decide +kernel
theorem dX6_blast_63 : decode cX6_blast 63 = .ok (.aload_n 0, 1) := by decide +kernel
theorem dX6_blast_64 : decode cX6_blast 64 = .ok (.getfield 36, 3) := by decide +kernel
theorem dX6_blast_67 : decode cX6_blast 67 = .ok (.bipush 64, 2) := by decide +kernel
theorem dX6_blast_69 : decode cX6_blast 69 = .ok (.iaload, 1) := by decide +kernel
theorem dX6_blast_70 : decode cX6_blast 70 = .ok (.iload_n 1, 1) := by decide +kernel
theorem dX6_blast_71 : decode cX6_blast 71 = .ok (.if_icmp .ne 7, 3) := by decide +kernel
theorem dX6_blast_74 : decode cX6_blast 74 = .ok (.iconst 4, 1) := by decide +kernel
theorem dX6_blast_75 : decode cX6_blast 75 = .ok (.goto 4, 3) := by decide +kernel
theorem dX6_blast_78 : decode cX6_blast 78 = .ok (.iconst 0, 1) := by decide +kernel
theorem dX6_blast_79 : decode cX6_blast 79 = .ok (.putfield 48, 3) := by decide +kernel
theorem dX6_blast_82 : decode cX6_blast 82 = .ok (.aload_n 0, 1) := by decide +kernel
theorem dX6_blast_83 : decode cX6_blast 83 = .ok (.getfield 48, 3) := by decide +kernel
theorem dX6_blast_86 : decode cX6_blast 86 = .ok (.ifCond .le 5, 3) := by decide +kernel
theorem dX6_blast_89 : decode cX6_blast 89 = .ok (.iconst 0, 1) := by decide +kernel
theorem dX6_blast_90 : decode cX6_blast 90 = .ok (.ireturn, 1) := by decide +kernel
theorem dX6_blast_91 : decode cX6_blast 91 = .ok (.aload_n 0, 1) := by decide +kernel
theorem dX6_blast_92 : decode cX6_blast 92 = .ok (.getfield 36, 3) := by decide +kernel
theorem dX6_blast_95 : decode cX6_blast 95 = .ok (.iconst 0, 1) := by decide +kernel
theorem dX6_blast_96 : decode cX6_blast 96 = .ok (.iload_n 1, 1) := by decide +kernel
theorem dX6_blast_97 : decode cX6_blast 97 = .ok (.iadd, 1) := by decide +kernel
theorem dX6_blast_98 : decode cX6_blast 98 = .ok (.dup2, 1) := by decide +kernel
theorem dX6_blast_99 : decode cX6_blast 99 = .ok (.iaload, 1) := by decide +kernel
theorem dX6_blast_100 : decode cX6_blast 100 = .ok (.iconst 5, 1) := by decide +kernel
theorem dX6_blast_101 : decode cX6_blast 101 = .ok (.iload_n 2, 1) := by decide +kernel
theorem dX6_blast_102 : decode cX6_blast 102 = .ok (.imul, 1) := by decide +kernel
theorem dX6_blast_103 : decode cX6_blast 103 = .ok (.iadd, 1) := by decide +kernel
theorem dX6_blast_104 : decode cX6_blast 104 = .ok (.iastore, 1) := by decide +kernel
theorem dX6_blast_105 : decode cX6_blast 105 = .ok (.aload_n 0, 1) := by decide +kernel
theorem dX6_blast_106 : decode cX6_blast 106 = .ok (.getfield 36, 3) := by decide +kernel
theorem dX6_blast_109 : decode cX6_blast 109 = .ok (.bipush 70, 2) := by decide +kernel
theorem dX6_blast_111 : decode cX6_blast 111 = .ok (.dup2, 1) := by decide +kernel
theorem dX6_blast_112 : decode cX6_blast 112 = .ok (.iaload, 1) := by decide +kernel
theorem dX6_blast_113 : decode cX6_blast 113 = .ok (.iconst 5, 1) := by decide +kernel
theorem dX6_blast_114 : decode cX6_blast 114 = .ok (.iload_n 2, 1) := by decide +kernel
theorem dX6_blast_115 : decode cX6_blast 115 = .ok (.imul, 1) := by decide +kernel
theorem dX6_blast_116 : decode cX6_blast 116 = .ok (.iadd, 1) := by decide +kernel
theorem dX6_blast_117 : decode cX6_blast 117 = .ok (.iastore, 1) := by decide +kernel
theorem dX6_blast_118 : decode cX6_blast 118 = .ok (.aload_n 0, 1) := by decide +kernel
theorem dX6_blast_119 : decode cX6_blast 119 = .ok (.getfield 36, 3) := by decide +kernel
theorem dX6_blast_122 : decode cX6_blast 122 = .ok (.bipush 14, 2) := by decide +kernel
theorem dX6_blast_124 : decode cX6_blast 124 = .ok (.iload_n 1, 1) := by decide +kernel
theorem dX6_blast_125 : decode cX6_blast 125 = .ok (.iadd, 1) := by decide +kernel
theorem dX6_blast_126 : decode cX6_blast 126 = .ok (.dup2, 1) := by decide +kernel
theorem dX6_blast_127 : decode cX6_blast 127 = .ok (.iaload, 1) := by decide +kernel
theorem dX6_blast_128 : decode cX6_blast 128 = .ok (.iconst 3, 1) := by decide +kernel
theorem dX6_blast_129 : decode cX6_blast 129 = .ok (.iload_n 2, 1) := by decide +kernel
theorem dX6_blast_130 : decode cX6_blast 130 = .ok (.imul, 1) := by decide +kernel
theorem dX6_blast_131 : decode cX6_blast 131 = .ok (.iadd, 1) := by decide +kernel
theorem dX6_blast_132 : decode cX6_blast 132 = .ok (.iastore, 1) := by decide +kernel
theorem dX6_blast_133 : decode cX6_blast 133 = .ok (.aload_n 0, 1) := by decide +kernel
theorem dX6_blast_134 : decode cX6_blast 134 = .ok (.getfield 36, 3) := by decide +kernel
theorem dX6_blast_137 : decode cX6_blast 137 = .ok (.bipush 21, 2) := by decide +kernel
theorem dX6_blast_139 : decode cX6_blast 139 = .ok (.iload_n 1, 1) := by decide +kernel
theorem dX6_blast_140 : decode cX6_blast 140 = .ok (.iadd, 1) := by decide +kernel
theorem dX6_blast_141 : decode cX6_blast 141 = .ok (.aload_n 0, 1) := by decide +kernel
theorem dX6_blast_142 : decode cX6_blast 142 = .ok (.getfield 36, 3) := by decide +kernel
theorem dX6_blast_145 : decode cX6_blast 145 = .ok (.bipush 61, 2) := by decide +kernel
theorem dX6_blast_147 : decode cX6_blast 147 = .ok (.iaload, 1) := by decide +kernel
theorem dX6_blast_148 : decode cX6_blast 148 = .ok (.bipush 30, 2) := by decide +kernel
theorem dX6_blast_150 : decode cX6_blast 150 = .ok (.iadd, 1) := by decide +kernel
theorem dX6_blast_151 : decode cX6_blast 151 = .ok (.iastore, 1) := by decide +kernel
theorem dX6_blast_152 : decode cX6_blast 152 = .ok (.aload_n 0, 1) := by decide +kernel
theorem dX6_blast_153 : decode cX6_blast 153 = .ok (.getfield 36, 3) := by decide +kernel
theorem dX6_blast_156 : decode cX6_blast 156 = .ok (.bipush 21, 2) := by decide +kernel
theorem dX6_blast_158 : decode cX6_blast 158 = .ok (.iload_n 1, 1) := by decide +kernel
theorem dX6_blast_159 : decode cX6_blast 159 = .ok (.iadd, 1) := by decide +kernel
theorem dX6_blast_160 : decode cX6_blast 160 = .ok (.iaload, 1) := by decide +kernel
theorem dX6_blast_161 : decode cX6_blast 161 = .ok (.ireturn, 1) := by decide +kernel
theorem dX6_isClosed_0 : decode cX6_isClosed 0 = .ok (.aload_n 0, 1) := by decide +kernel
theorem dX6_isClosed_1 : decode cX6_isClosed 1 = .ok (.iload_n 1, 1) := by decide +kernel
theorem dX6_isClosed_2 : decode cX6_isClosed 2 = .ok (.invokevirtual 65, 3) := by decide +kernel
theorem dX6_isClosed_5 : decode cX6_isClosed 5 = .ok (.ifCond .ne 15, 3) := by decide +kernel
theorem dX6_isClosed_8 : decode cX6_isClosed 8 = .ok (.aload_n 0, 1) := by decide +kernel
theorem dX6_isClosed_9 : decode cX6_isClosed 9 = .ok (.iload_n 1, 1) := by decide +kernel
theorem dX6_isClosed_10 : decode cX6_isClosed 10 = .ok (.invokevirtual 99, 3) := by decide +kernel
theorem dX6_isClosed_13 : decode cX6_isClosed 13 = .ok (.ifCond .eq 7, 3) := by decide +kernel
theorem dX6_isClosed_16 : decode cX6_isClosed 16 = .ok (.iconst 1, 1) := by decide +kernel
theorem dX6_isClosed_17 : decode cX6_isClosed 17 = .ok (.goto 4, 3) := by decide +kernel
theorem dX6_isClosed_20 : decode cX6_isClosed 20 = .ok (.iconst 0, 1) := by decide +kernel
theorem dX6_isClosed_21 : decode cX6_isClosed 21 = .ok (.ireturn, 1) := by decide +kernel
theorem dX6_setSpeed_0 : decode cX6_setSpeed 0 = .ok (.aload_n 0, 1) := by decide +kernel
theorem dX6_setSpeed_1 : decode cX6_setSpeed 1 = .ok (.iload_n 1, 1) := by decide +kernel
theorem dX6_setSpeed_2 : decode cX6_setSpeed 2 = .ok (.bipush 10, 2) := by decide +kernel
theorem dX6_setSpeed_4 : decode cX6_setSpeed 4 = .ok (.sipush 500, 3) := by decide +kernel
theorem dX6_setSpeed_7 : decode cX6_setSpeed 7 = .ok (.invokestatic 54, 3) := by decide +kernel
theorem dX6_setSpeed_10 : decode cX6_setSpeed 10 = .ok (.ifCond .eq 7, 3) := by decide +kernel
theorem dX6_setSpeed_13 : decode cX6_setSpeed 13 = .ok (.iconst 0, 1) := by decide +kernel
theorem dX6_setSpeed_14 : decode cX6_setSpeed 14 = .ok (.goto 4, 3) := by decide +kernel
theorem dX6_setSpeed_17 : decode cX6_setSpeed 17 = .ok (.iconst 1, 1) := by decide +kernel
theorem dX6_setSpeed_18 : decode cX6_setSpeed 18 = .ok (.putfield 48, 3) := by decide +kernel
theorem dX6_setSpeed_21 : decode cX6_setSpeed 21 = .ok (.aload_n 0, 1) := by decide +kernel
theorem dX6_setSpeed_22 : decode cX6_setSpeed 22 = .ok (.getfield 48, 3) := by decide +kernel
theorem dX6_setSpeed_25 : decode cX6_setSpeed 25 = .ok (.ifCond .le 5, 3) := by decide +kernel
theorem dX6_setSpeed_28 : decode cX6_setSpeed 28 = .ok (.iconst 0, 1) := by decide +kernel
theorem dX6_setSpeed_29 : decode cX6_setSpeed 29 = .ok (.ireturn, 1) := by decide +kernel
theorem dX6_setSpeed_30 : decode cX6_setSpeed 30 = .ok (.aload_n 0, 1) := by decide +kernel
theorem dX6_setSpeed_31 : decode cX6_setSpeed 31 = .ok (.getfield 33, 3) := by decide +kernel
theorem dX6_setSpeed_34 : decode cX6_setSpeed 34 = .ok (.istore_n 2, 1) := by decide +kernel
theorem dX6_setSpeed_35 : decode cX6_setSpeed 35 = .ok (.aload_n 0, 1) := by decide +kernel
theorem dX6_setSpeed_36 : decode cX6_setSpeed 36 = .ok (.iload_n 1, 1) := by decide +kernel
theorem dX6_setSpeed_37 : decode cX6_setSpeed 37 = .ok (.putfield 33, 3) := by decide +kernel
theorem dX6_setSpeed_40 : decode cX6_setSpeed 40 = .ok (.iload_n 2, 1) := by decide +kernel
theorem dX6_setSpeed_41 : decode cX6_setSpeed 41 = .ok (.ireturn, 1) := by decide +kernel
theorem dX6_waits_0 : decode cX6_waits 0 = .ok (.bipush 28, 2) := by decide +kernel
theorem dX6_waits_2 : decode cX6_waits 2 = .ok (.iconst 4, 1) := by decide +kernel
theorem dX6_waits_3 : decode cX6_waits 3 = .ok (.aload_n 0, 1) := by decide +kernel
theorem dX6_waits_4 : decode cX6_waits 4 = .ok (.getfield 36, 3) := by decide +kernel
theorem dX6_waits_7 : decode cX6_waits 7 = .ok (.bipush 60, 2) := by decide +kernel
theorem dX6_waits_9 : decode cX6_waits 9 = .ok (.iaload, 1) := by decide +kernel
theorem dX6_waits_10 : decode cX6_waits 10 = .ok (.imul, 1) := by decide +kernel
theorem dX6_waits_11 : decode cX6_waits 11 = .ok (.iadd, 1) := by decide +kernel
theorem dX6_waits_12 : decode cX6_waits 12 = .ok (.istore 4, 2) := by decide +kernel
theorem dX6_waits_14 : decode cX6_waits 14 = .ok (.aload_n 0, 1) := by decide +kernel
theorem dX6_waits_15 : decode cX6_waits 15 = .ok (.getfield 36, 3) := by decide +kernel
theorem dX6_waits_18 : decode cX6_waits 18 = .ok (.iload 4, 2) := by decide +kernel
theorem dX6_waits_20 : decode cX6_waits 20 = .ok (.aload_n 0, 1) := by decide +kernel
theorem dX6_waits_21 : decode cX6_waits 21 = .ok (.getfield 102, 3) := by decide +kernel
theorem dX6_waits_24 : decode cX6_waits 24 = .ok (.iastore, 1) := by decide +kernel
theorem dX6_waits_25 : decode cX6_waits 25 = .ok (.aload_n 0, 1) := by decide +kernel
theorem dX6_waits_26 : decode cX6_waits 26 = .ok (.getfield 36, 3) := by decide +kernel
theorem dX6_waits_29 : decode cX6_waits 29 = .ok (.iload 4, 2) := by decide +kernel
theorem dX6_waits_31 : decode cX6_waits 31 = .ok (.iconst 1, 1) := by decide +kernel
theorem dX6_waits_32 : decode cX6_waits 32 = .ok (.iadd, 1) := by decide +kernel
theorem dX6_waits_33 : decode cX6_waits 33 = .ok (.iload_n 1, 1) := by decide +kernel
theorem dX6_waits_34 : decode cX6_waits 34 = .ok (.iastore, 1) := by decide +kernel
theorem dX6_waits_35 : decode cX6_waits 35 = .ok (.aload_n 0, 1) := by decide +kernel
theorem dX6_waits_36 : decode cX6_waits 36 = .ok (.getfield 36, 3) := by decide +kernel
theorem dX6_waits_39 : decode cX6_waits 39 = .ok (.iload 4, 2) := by decide +kernel
theorem dX6_waits_41 : decode cX6_waits 41 = .ok (.iconst 2, 1) := by decide +kernel
theorem dX6_waits_42 : decode cX6_waits 42 = .ok (.iadd, 1) := by decide +kernel
theorem dX6_waits_43 : decode cX6_waits 43 = .ok (.iload_n 2, 1) := by decide +kernel
theorem dX6_waits_44 : decode cX6_waits 44 = .ok (.iastore, 1) := by decide +kernel
theorem dX6_waits_45 : decode cX6_waits 45 = .ok (.aload_n 0, 1) := by decide +kernel
theorem dX6_waits_46 : decode cX6_waits 46 = .ok (.getfield 36, 3) := by decide +kernel
theorem dX6_waits_49 : decode cX6_waits 49 = .ok (.iload 4, 2) := by decide +kernel
theorem dX6_waits_51 : decode cX6_waits 51 = .ok (.iconst 3, 1) := by decide +kernel
theorem dX6_waits_52 : decode cX6_waits 52 = .ok (.iadd, 1) := by decide +kernel
theorem dX6_waits_53 : decode cX6_waits 53 = .ok (.iload_n 3, 1) := by decide +kernel
theorem dX6_waits_54 : decode cX6_waits 54 = .ok (.iastore, 1) := by decide +kernel
theorem dX6_waits_55 : decode cX6_waits 55 = .ok (.aload_n 0, 1) := by decide +kernel
theorem dX6_waits_56 : decode cX6_waits 56 = .ok (.getfield 36, 3) := by decide +kernel
theorem dX6_waits_59 : decode cX6_waits 59 = .ok (.bipush 60, 2) := by decide +kernel
theorem dX6_waits_61 : decode cX6_waits 61 = .ok (.dup2, 1) := by decide +kernel
theorem dX6_waits_62 : decode cX6_waits 62 = .ok (.iaload, 1) := by decide +kernel
theorem dX6_waits_63 : decode cX6_waits 63 = .ok (.iconst 1, 1) := by decide +kernel
theorem dX6_waits_64 : decode cX6_waits 64 = .ok (.iadd, 1) := by decide +kernel
theorem dX6_waits_65 : decode cX6_waits 65 = .ok (.iastore, 1) := by decide +kernel
theorem dX6_waits_66 : decode cX6_waits 66 = .ok (.aload_n 0, 1) := by decide +kernel
theorem dX6_waits_67 : decode cX6_waits 67 = .ok (.dup, 1) := by decide +kernel
theorem dX6_waits_68 : decode cX6_waits 68 = .ok (.getfield 102, 3) := by decide +kernel
theorem dX6_waits_71 : decode cX6_waits 71 = .ok (.iconst 1, 1) := by decide +kernel
theorem dX6_waits_72 : decode cX6_waits 72 = .ok (.iadd, 1) := by decide +kernel
theorem dX6_waits_73 : decode cX6_waits 73 = .ok (.putfield 102, 3) := by decide +kernel
theorem dX6_waits_76 : decode cX6_waits 76 = .ok (.aload_n 0, 1) := by decide +kernel
theorem dX6_waits_77 : decode cX6_waits 77 = .ok (.getfield 102, 3) := by decide +kernel
theorem dX6_waits_80 : decode cX6_waits 80 = .ok (.iconst 1, 1) := by decide +kernel
theorem dX6_waits_81 : decode cX6_waits 81 = .ok (.isub, 1) := by decide +kernel
theorem dX6_waits_82 : decode cX6_waits 82 = .ok (.ireturn, 1) := by decide +kernel
theorem dX6_sendDown_0 : decode cX6_sendDown 0 = .ok (.aload_n 0, 1) := by decide +kernel
theorem dX6_sendDown_1 : decode cX6_sendDown 1 = .ok (.aload_n 0, 1) := by decide +kernel
theorem dX6_sendDown_2 : decode cX6_sendDown 2 = .ok (.iload_n 1, 1) := by decide +kernel
theorem dX6_sendDown_3 : decode cX6_sendDown 3 = .ok (.invokevirtual 58, 3) := by decide +kernel
theorem dX6_sendDown_6 : decode cX6_sendDown 6 = .ok (.ifCond .ne 7, 3) := by decide +kernel
theorem dX6_sendDown_9 : decode cX6_sendDown 9 = .ok (.iconst 1, 1) := by decide +kernel
theorem dX6_sendDown_10 : decode cX6_sendDown 10 = .ok (.goto 54, 3) := by decide +kernel
theorem dX6_sendDown_13 : decode cX6_sendDown 13 = .ok (.iload_n 2, 1) := by decide +kernel
theorem dX6_sendDown_14 : decode cX6_sendDown 14 = .ok (.iconst 1, 1) := by decide +kernel
theorem dX6_sendDown_15 : decode cX6_sendDown 15 = .ok (.bipush 12, 2) := by decide +kernel
theorem dX6_sendDown_17 : decode cX6_sendDown 17 = .ok (.invokestatic 54, 3) := by decide +kernel
theorem dX6_sendDown_20 : decode cX6_sendDown 20 = .ok (.ifCond .ne 7, 3) := by decide +kernel
theorem dX6_sendDown_23 : decode cX6_sendDown 23 = .ok (.iconst 2, 1) := by decide +kernel
theorem dX6_sendDown_24 : decode cX6_sendDown 24 = .ok (.goto 40, 3) := by decide +kernel
theorem dX6_sendDown_27 : decode cX6_sendDown 27 = .ok (.aload_n 0, 1) := by decide +kernel
theorem dX6_sendDown_28 : decode cX6_sendDown 28 = .ok (.iload_n 1, 1) := by decide +kernel
theorem dX6_sendDown_29 : decode cX6_sendDown 29 = .ok (.invokevirtual 81, 3) := by decide +kernel
theorem dX6_sendDown_32 : decode cX6_sendDown 32 = .ok (.ifCond .ne 11, 3) := by decide +kernel
theorem dX6_sendDown_35 : decode cX6_sendDown 35 = .ok (.aload_n 0, 1) := by decide +kernel
theorem dX6_sendDown_36 : decode cX6_sendDown 36 = .ok (.iload_n 1, 1) := by decide +kernel
theorem dX6_sendDown_37 : decode cX6_sendDown 37 = .ok (.invokevirtual 99, 3) := by decide +kernel
theorem dX6_sendDown_40 : decode cX6_sendDown 40 = .ok (.ifCond .eq 7, 3) := by decide +kernel
theorem dX6_sendDown_43 : decode cX6_sendDown 43 = .ok (.iconst 3, 1) := by decide +kernel
theorem dX6_sendDown_44 : decode cX6_sendDown 44 = .ok (.goto 20, 3) := by decide +kernel
theorem dX6_sendDown_47 : decode cX6_sendDown 47 = .ok (.aload_n 0, 1) := by decide +kernel
theorem dX6_sendDown_48 : decode cX6_sendDown 48 = .ok (.getfield 36, 3) := by decide +kernel
theorem dX6_sendDown_51 : decode cX6_sendDown 51 = .ok (.bipush 60, 2) := by decide +kernel
theorem dX6_sendDown_53 : decode cX6_sendDown 53 = .ok (.iaload, 1) := by decide +kernel
theorem dX6_sendDown_54 : decode cX6_sendDown 54 = .ok (.bipush 8, 2) := by decide +kernel
theorem dX6_sendDown_56 : decode cX6_sendDown 56 = .ok (.if_icmp .ne 7, 3) := by decide +kernel
theorem dX6_sendDown_59 : decode cX6_sendDown 59 = .ok (.iconst 4, 1) := by decide +kernel
theorem dX6_sendDown_60 : decode cX6_sendDown 60 = .ok (.goto 4, 3) := by decide +kernel
theorem dX6_sendDown_63 : decode cX6_sendDown 63 = .ok (.iconst 0, 1) := by decide +kernel
theorem dX6_sendDown_64 : decode cX6_sendDown 64 = .ok (.putfield 48, 3) := by decide +kernel
theorem dX6_sendDown_67 : decode cX6_sendDown 67 = .ok (.aload_n 0, 1) := by decide +kernel
theorem dX6_sendDown_68 : decode cX6_sendDown 68 = .ok (.getfield 48, 3) := by decide +kernel
theorem dX6_sendDown_71 : decode cX6_sendDown 71 = .ok (.ifCond .le 7, 3) := by decide +kernel
theorem dX6_sendDown_74 : decode cX6_sendDown 74 = .ok (.iconst 0, 1) := by decide +kernel
theorem dX6_sendDown_75 : decode cX6_sendDown 75 = .ok (.goto 11, 3) := by decide +kernel
theorem dX6_sendDown_78 : decode cX6_sendDown 78 = .ok (.aload_n 0, 1) := by decide +kernel
theorem dX6_sendDown_79 : decode cX6_sendDown 79 = .ok (.bipush 100, 2) := by decide +kernel
theorem dX6_sendDown_81 : decode cX6_sendDown 81 = .ok (.iload_n 1, 1) := by decide +kernel
theorem dX6_sendDown_82 : decode cX6_sendDown 82 = .ok (.iload_n 2, 1) := by decide +kernel
theorem dX6_sendDown_83 : decode cX6_sendDown 83 = .ok (.invokevirtual 105, 3) := by decide +kernel
theorem dX6_sendDown_86 : decode cX6_sendDown 86 = .ok (.ireturn, 1) := by decide +kernel
theorem dX6_callUp_0 : decode cX6_callUp 0 = .ok (.aload_n 0, 1) := by decide +kernel
theorem dX6_callUp_1 : decode cX6_callUp 1 = .ok (.aload_n 0, 1) := by decide +kernel
theorem dX6_callUp_2 : decode cX6_callUp 2 = .ok (.iload_n 1, 1) := by decide +kernel
theorem dX6_callUp_3 : decode cX6_callUp 3 = .ok (.invokevirtual 58, 3) := by decide +kernel
theorem dX6_callUp_6 : decode cX6_callUp 6 = .ok (.ifCond .ne 7, 3) := by decide +kernel
theorem dX6_callUp_9 : decode cX6_callUp 9 = .ok (.iconst 1, 1) := by decide +kernel
theorem dX6_callUp_10 : decode cX6_callUp 10 = .ok (.goto 34, 3) := by decide +kernel
theorem dX6_callUp_13 : decode cX6_callUp 13 = .ok (.iload_n 2, 1) := by decide +kernel
theorem dX6_callUp_14 : decode cX6_callUp 14 = .ok (.iconst 1, 1) := by decide +kernel
theorem dX6_callUp_15 : decode cX6_callUp 15 = .ok (.bipush 12, 2) := by decide +kernel
theorem dX6_callUp_17 : decode cX6_callUp 17 = .ok (.invokestatic 54, 3) := by decide +kernel
theorem dX6_callUp_20 : decode cX6_callUp 20 = .ok (.ifCond .ne 7, 3) := by decide +kernel
theorem dX6_callUp_23 : decode cX6_callUp 23 = .ok (.iconst 2, 1) := by decide +kernel
theorem dX6_callUp_24 : decode cX6_callUp 24 = .ok (.goto 20, 3) := by decide +kernel
theorem dX6_callUp_27 : decode cX6_callUp 27 = .ok (.aload_n 0, 1) := by decide +kernel
theorem dX6_callUp_28 : decode cX6_callUp 28 = .ok (.getfield 36, 3) := by decide +kernel
theorem dX6_callUp_31 : decode cX6_callUp 31 = .ok (.bipush 60, 2) := by decide +kernel
theorem dX6_callUp_33 : decode cX6_callUp 33 = .ok (.iaload, 1) := by decide +kernel
theorem dX6_callUp_34 : decode cX6_callUp 34 = .ok (.bipush 8, 2) := by decide +kernel
theorem dX6_callUp_36 : decode cX6_callUp 36 = .ok (.if_icmp .ne 7, 3) := by decide +kernel
theorem dX6_callUp_39 : decode cX6_callUp 39 = .ok (.iconst 3, 1) := by decide +kernel
theorem dX6_callUp_40 : decode cX6_callUp 40 = .ok (.goto 4, 3) := by decide +kernel
theorem dX6_callUp_43 : decode cX6_callUp 43 = .ok (.iconst 0, 1) := by decide +kernel
theorem dX6_callUp_44 : decode cX6_callUp 44 = .ok (.putfield 48, 3) := by decide +kernel
theorem dX6_callUp_47 : decode cX6_callUp 47 = .ok (.aload_n 0, 1) := by decide +kernel
theorem dX6_callUp_48 : decode cX6_callUp 48 = .ok (.getfield 48, 3) := by decide +kernel
theorem dX6_callUp_51 : decode cX6_callUp 51 = .ok (.ifCond .le 7, 3) := by decide +kernel
theorem dX6_callUp_54 : decode cX6_callUp 54 = .ok (.iconst 0, 1) := by decide +kernel
theorem dX6_callUp_55 : decode cX6_callUp 55 = .ok (.goto 11, 3) := by decide +kernel
theorem dX6_callUp_58 : decode cX6_callUp 58 = .ok (.aload_n 0, 1) := by decide +kernel
theorem dX6_callUp_59 : decode cX6_callUp 59 = .ok (.bipush 117, 2) := by decide +kernel
theorem dX6_callUp_61 : decode cX6_callUp 61 = .ok (.iload_n 1, 1) := by decide +kernel
theorem dX6_callUp_62 : decode cX6_callUp 62 = .ok (.iload_n 2, 1) := by decide +kernel
theorem dX6_callUp_63 : decode cX6_callUp 63 = .ok (.invokevirtual 105, 3) := by decide +kernel
theorem dX6_callUp_66 : decode cX6_callUp 66 = .ok (.ireturn, 1) := by decide +kernel
theorem dX6_hoistOre_0 : decode cX6_hoistOre 0 = .ok (.aload_n 0, 1) := by decide +kernel
theorem dX6_hoistOre_1 : decode cX6_hoistOre 1 = .ok (.aload_n 0, 1) := by decide +kernel
theorem dX6_hoistOre_2 : decode cX6_hoistOre 2 = .ok (.iload_n 1, 1) := by decide +kernel
theorem dX6_hoistOre_3 : decode cX6_hoistOre 3 = .ok (.invokevirtual 58, 3) := by decide +kernel
theorem dX6_hoistOre_6 : decode cX6_hoistOre 6 = .ok (.ifCond .ne 7, 3) := by decide +kernel
theorem dX6_hoistOre_9 : decode cX6_hoistOre 9 = .ok (.iconst 1, 1) := by decide +kernel
theorem dX6_hoistOre_10 : decode cX6_hoistOre 10 = .ok (.goto 20, 3) := by decide +kernel
theorem dX6_hoistOre_13 : decode cX6_hoistOre 13 = .ok (.aload_n 0, 1) := by decide +kernel
theorem dX6_hoistOre_14 : decode cX6_hoistOre 14 = .ok (.getfield 36, 3) := by decide +kernel
theorem dX6_hoistOre_17 : decode cX6_hoistOre 17 = .ok (.bipush 60, 2) := by decide +kernel
theorem dX6_hoistOre_19 : decode cX6_hoistOre 19 = .ok (.iaload, 1) := by decide +kernel
theorem dX6_hoistOre_20 : decode cX6_hoistOre 20 = .ok (.bipush 8, 2) := by decide +kernel
theorem dX6_hoistOre_22 : decode cX6_hoistOre 22 = .ok (.if_icmp .ne 7, 3) := by decide +kernel
theorem dX6_hoistOre_25 : decode cX6_hoistOre 25 = .ok (.iconst 2, 1) := by decide +kernel
theorem dX6_hoistOre_26 : decode cX6_hoistOre 26 = .ok (.goto 4, 3) := by decide +kernel
theorem dX6_hoistOre_29 : decode cX6_hoistOre 29 = .ok (.iconst 0, 1) := by decide +kernel
theorem dX6_hoistOre_30 : decode cX6_hoistOre 30 = .ok (.putfield 48, 3) := by decide +kernel
theorem dX6_hoistOre_33 : decode cX6_hoistOre 33 = .ok (.aload_n 0, 1) := by decide +kernel
theorem dX6_hoistOre_34 : decode cX6_hoistOre 34 = .ok (.getfield 48, 3) := by decide +kernel
theorem dX6_hoistOre_37 : decode cX6_hoistOre 37 = .ok (.ifCond .le 7, 3) := by decide +kernel
theorem dX6_hoistOre_40 : decode cX6_hoistOre 40 = .ok (.iconst 0, 1) := by decide +kernel
theorem dX6_hoistOre_41 : decode cX6_hoistOre 41 = .ok (.goto 11, 3) := by decide +kernel
theorem dX6_hoistOre_44 : decode cX6_hoistOre 44 = .ok (.aload_n 0, 1) := by decide +kernel
theorem dX6_hoistOre_45 : decode cX6_hoistOre 45 = .ok (.bipush 111, 2) := by decide +kernel
theorem dX6_hoistOre_47 : decode cX6_hoistOre 47 = .ok (.iload_n 1, 1) := by decide +kernel
theorem dX6_hoistOre_48 : decode cX6_hoistOre 48 = .ok (.iconst 0, 1) := by decide +kernel
theorem dX6_hoistOre_49 : decode cX6_hoistOre 49 = .ok (.invokevirtual 105, 3) := by decide +kernel
theorem dX6_hoistOre_52 : decode cX6_hoistOre 52 = .ok (.ireturn, 1) := by decide +kernel
theorem dX6_place_0 : decode cX6_place 0 = .ok (.iconst 0, 1) := by decide +kernel
theorem dX6_place_1 : decode cX6_place 1 = .ok (.istore_n 2, 1) := by decide +kernel
theorem dX6_place_2 : decode cX6_place 2 = .ok (.iload_n 2, 1) := by decide +kernel
theorem dX6_place_3 : decode cX6_place 3 = .ok (.aload_n 0, 1) := by decide +kernel
theorem dX6_place_4 : decode cX6_place 4 = .ok (.getfield 36, 3) := by decide +kernel
theorem dX6_place_7 : decode cX6_place 7 = .ok (.bipush 60, 2) := by decide +kernel
theorem dX6_place_9 : decode cX6_place 9 = .ok (.iaload, 1) := by decide +kernel
theorem dX6_place_10 : decode cX6_place 10 = .ok (.if_icmp .ge 26, 3) := by decide +kernel
theorem dX6_place_13 : decode cX6_place 13 = .ok (.aload_n 0, 1) := by decide +kernel
theorem dX6_place_14 : decode cX6_place 14 = .ok (.getfield 36, 3) := by decide +kernel
theorem dX6_place_17 : decode cX6_place 17 = .ok (.bipush 28, 2) := by decide +kernel
theorem dX6_place_19 : decode cX6_place 19 = .ok (.iconst 4, 1) := by decide +kernel
theorem dX6_place_20 : decode cX6_place 20 = .ok (.iload_n 2, 1) := by decide +kernel
theorem dX6_place_21 : decode cX6_place 21 = .ok (.imul, 1) := by decide +kernel
theorem dX6_place_22 : decode cX6_place 22 = .ok (.iadd, 1) := by decide +kernel
theorem dX6_place_23 : decode cX6_place 23 = .ok (.iaload, 1) := by decide +kernel
theorem dX6_place_24 : decode cX6_place 24 = .ok (.iload_n 1, 1) := by decide +kernel
theorem dX6_place_25 : decode cX6_place 25 = .ok (.if_icmp .ne 5, 3) := by decide +kernel
theorem dX6_place_28 : decode cX6_place 28 = .ok (.iload_n 2, 1) := by decide +kernel
theorem dX6_place_29 : decode cX6_place 29 = .ok (.ireturn, 1) := by decide +kernel
theorem dX6_place_30 : decode cX6_place 30 = .ok (.iinc 2 1, 3) := by decide +kernel
theorem dX6_place_33 : decode cX6_place 33 = .ok (.goto (-31), 3) := by decide +kernel
theorem dX6_place_36 : decode cX6_place 36 = .ok (.iconst (-1), 1) := by decide +kernel
theorem dX6_place_37 : decode cX6_place 37 = .ok (.ireturn, 1) := by decide +kernel
theorem dX6_goes_0 : decode cX6_goes 0 = .ok (.aload_n 0, 1) := by decide +kernel
theorem dX6_goes_1 : decode cX6_goes 1 = .ok (.getfield 36, 3) := by decide +kernel
theorem dX6_goes_4 : decode cX6_goes 4 = .ok (.bipush 60, 2) := by decide +kernel
theorem dX6_goes_6 : decode cX6_goes 6 = .ok (.dup2, 1) := by decide +kernel
theorem dX6_goes_7 : decode cX6_goes 7 = .ok (.iaload, 1) := by decide +kernel
theorem dX6_goes_8 : decode cX6_goes 8 = .ok (.iconst 1, 1) := by decide +kernel
theorem dX6_goes_9 : decode cX6_goes 9 = .ok (.isub, 1) := by decide +kernel
theorem dX6_goes_10 : decode cX6_goes 10 = .ok (.iastore, 1) := by decide +kernel
theorem dX6_goes_11 : decode cX6_goes 11 = .ok (.bipush 28, 2) := by decide +kernel
theorem dX6_goes_13 : decode cX6_goes 13 = .ok (.iconst 4, 1) := by decide +kernel
theorem dX6_goes_14 : decode cX6_goes 14 = .ok (.iload_n 1, 1) := by decide +kernel
theorem dX6_goes_15 : decode cX6_goes 15 = .ok (.imul, 1) := by decide +kernel
theorem dX6_goes_16 : decode cX6_goes 16 = .ok (.iadd, 1) := by decide +kernel
theorem dX6_goes_17 : decode cX6_goes 17 = .ok (.istore_n 2, 1) := by decide +kernel
theorem dX6_goes_18 : decode cX6_goes 18 = .ok (.iload_n 2, 1) := by decide +kernel
theorem dX6_goes_19 : decode cX6_goes 19 = .ok (.bipush 28, 2) := by decide +kernel
theorem dX6_goes_21 : decode cX6_goes 21 = .ok (.iconst 4, 1) := by decide +kernel
theorem dX6_goes_22 : decode cX6_goes 22 = .ok (.aload_n 0, 1) := by decide +kernel
theorem dX6_goes_23 : decode cX6_goes 23 = .ok (.getfield 36, 3) := by decide +kernel
theorem dX6_goes_26 : decode cX6_goes 26 = .ok (.bipush 60, 2) := by decide +kernel
theorem dX6_goes_28 : decode cX6_goes 28 = .ok (.iaload, 1) := by decide +kernel
theorem dX6_goes_29 : decode cX6_goes 29 = .ok (.imul, 1) := by decide +kernel
theorem dX6_goes_30 : decode cX6_goes 30 = .ok (.iadd, 1) := by decide +kernel
theorem dX6_goes_31 : decode cX6_goes 31 = .ok (.if_icmp .ge 23, 3) := by decide +kernel
theorem dX6_goes_34 : decode cX6_goes 34 = .ok (.aload_n 0, 1) := by decide +kernel
theorem dX6_goes_35 : decode cX6_goes 35 = .ok (.getfield 36, 3) := by decide +kernel
theorem dX6_goes_38 : decode cX6_goes 38 = .ok (.iload_n 2, 1) := by decide +kernel
theorem dX6_goes_39 : decode cX6_goes 39 = .ok (.aload_n 0, 1) := by decide +kernel
theorem dX6_goes_40 : decode cX6_goes 40 = .ok (.getfield 36, 3) := by decide +kernel
theorem dX6_goes_43 : decode cX6_goes 43 = .ok (.iload_n 2, 1) := by decide +kernel
theorem dX6_goes_44 : decode cX6_goes 44 = .ok (.iconst 4, 1) := by decide +kernel
theorem dX6_goes_45 : decode cX6_goes 45 = .ok (.iadd, 1) := by decide +kernel
theorem dX6_goes_46 : decode cX6_goes 46 = .ok (.iaload, 1) := by decide +kernel
theorem dX6_goes_47 : decode cX6_goes 47 = .ok (.iastore, 1) := by decide +kernel
theorem dX6_goes_48 : decode cX6_goes 48 = .ok (.iinc 2 1, 3) := by decide +kernel
theorem dX6_goes_51 : decode cX6_goes 51 = .ok (.goto (-33), 3) := by decide +kernel
theorem dX6_goes_54 : decode cX6_goes 54 = .ok (.return_, 1) := by decide +kernel
theorem dX6_cancel_0 : decode cX6_cancel 0 = .ok (.aload_n 0, 1) := by decide +kernel
theorem dX6_cancel_1 : decode cX6_cancel 1 = .ok (.iload_n 1, 1) := by decide +kernel
theorem dX6_cancel_2 : decode cX6_cancel 2 = .ok (.invokevirtual 109, 3) := by decide +kernel
theorem dX6_cancel_5 : decode cX6_cancel 5 = .ok (.istore_n 2, 1) := by decide +kernel
theorem dX6_cancel_6 : decode cX6_cancel 6 = .ok (.aload_n 0, 1) := by decide +kernel
theorem dX6_cancel_7 : decode cX6_cancel 7 = .ok (.iload_n 2, 1) := by decide +kernel
theorem dX6_cancel_8 : decode cX6_cancel 8 = .ok (.iconst (-1), 1) := by decide +kernel
theorem dX6_cancel_9 : decode cX6_cancel 9 = .ok (.if_icmp .ne 7, 3) := by decide +kernel
theorem dX6_cancel_12 : decode cX6_cancel 12 = .ok (.iconst 1, 1) := by decide +kernel
theorem dX6_cancel_13 : decode cX6_cancel 13 = .ok (.goto 4, 3) := by decide +kernel
theorem dX6_cancel_16 : decode cX6_cancel 16 = .ok (.iconst 0, 1) := by decide +kernel
theorem dX6_cancel_17 : decode cX6_cancel 17 = .ok (.putfield 48, 3) := by decide +kernel
theorem dX6_cancel_20 : decode cX6_cancel 20 = .ok (.aload_n 0, 1) := by decide +kernel
theorem dX6_cancel_21 : decode cX6_cancel 21 = .ok (.getfield 48, 3) := by decide +kernel
theorem dX6_cancel_24 : decode cX6_cancel 24 = .ok (.ifCond .le 5, 3) := by decide +kernel
theorem dX6_cancel_27 : decode cX6_cancel 27 = .ok (.iconst 0, 1) := by decide +kernel
theorem dX6_cancel_28 : decode cX6_cancel 28 = .ok (.ireturn, 1) := by decide +kernel
theorem dX6_cancel_29 : decode cX6_cancel 29 = .ok (.aload_n 0, 1) := by decide +kernel
theorem dX6_cancel_30 : decode cX6_cancel 30 = .ok (.iload_n 2, 1) := by decide +kernel
theorem dX6_cancel_31 : decode cX6_cancel 31 = .ok (.invokevirtual 112, 3) := by decide +kernel
theorem dX6_cancel_34 : decode cX6_cancel 34 = .ok (.aload_n 0, 1) := by decide +kernel
theorem dX6_cancel_35 : decode cX6_cancel 35 = .ok (.getfield 36, 3) := by decide +kernel
theorem dX6_cancel_38 : decode cX6_cancel 38 = .ok (.bipush 60, 2) := by decide +kernel
theorem dX6_cancel_40 : decode cX6_cancel 40 = .ok (.iaload, 1) := by decide +kernel
theorem dX6_cancel_41 : decode cX6_cancel 41 = .ok (.ireturn, 1) := by decide +kernel
theorem dX6_waitingCount_0 : decode cX6_waitingCount 0 = .ok (.aload_n 0, 1) := by decide +kernel
theorem dX6_waitingCount_1 : decode cX6_waitingCount 1 = .ok (.iconst 0, 1) := by decide +kernel
theorem dX6_waitingCount_2 : decode cX6_waitingCount 2 = .ok (.putfield 48, 3) := by decide +kernel
theorem dX6_waitingCount_5 : decode cX6_waitingCount 5 = .ok (.aload_n 0, 1) := by decide +kernel
theorem dX6_waitingCount_6 : decode cX6_waitingCount 6 = .ok (.getfield 36, 3) := by decide +kernel
theorem dX6_waitingCount_9 : decode cX6_waitingCount 9 = .ok (.bipush 60, 2) := by decide +kernel
theorem dX6_waitingCount_11 : decode cX6_waitingCount 11 = .ok (.iaload, 1) := by decide +kernel
theorem dX6_waitingCount_12 : decode cX6_waitingCount 12 = .ok (.ireturn, 1) := by decide +kernel
theorem dX6_waitingAt_0 : decode cX6_waitingAt 0 = .ok (.aload_n 0, 1) := by decide +kernel
theorem dX6_waitingAt_1 : decode cX6_waitingAt 1 = .ok (.iload_n 1, 1) := by decide +kernel
theorem dX6_waitingAt_2 : decode cX6_waitingAt 2 = .ok (.iconst 0, 1) := by decide +kernel
theorem dX6_waitingAt_3 : decode cX6_waitingAt 3 = .ok (.aload_n 0, 1) := by decide +kernel
theorem dX6_waitingAt_4 : decode cX6_waitingAt 4 = .ok (.getfield 36, 3) := by decide +kernel
theorem dX6_waitingAt_7 : decode cX6_waitingAt 7 = .ok (.bipush 60, 2) := by decide +kernel
theorem dX6_waitingAt_9 : decode cX6_waitingAt 9 = .ok (.iaload, 1) := by decide +kernel
theorem dX6_waitingAt_10 : decode cX6_waitingAt 10 = .ok (.iconst 1, 1) := by decide +kernel
theorem dX6_waitingAt_11 : decode cX6_waitingAt 11 = .ok (.isub, 1) := by decide +kernel
theorem dX6_waitingAt_12 : decode cX6_waitingAt 12 = .ok (.invokestatic 54, 3) := by decide +kernel
theorem dX6_waitingAt_15 : decode cX6_waitingAt 15 = .ok (.ifCond .eq 7, 3) := by decide +kernel
theorem dX6_waitingAt_18 : decode cX6_waitingAt 18 = .ok (.iconst 0, 1) := by decide +kernel
theorem dX6_waitingAt_19 : decode cX6_waitingAt 19 = .ok (.goto 4, 3) := by decide +kernel
theorem dX6_waitingAt_22 : decode cX6_waitingAt 22 = .ok (.iconst 1, 1) := by decide +kernel
theorem dX6_waitingAt_23 : decode cX6_waitingAt 23 = .ok (.putfield 48, 3) := by decide +kernel
theorem dX6_waitingAt_26 : decode cX6_waitingAt 26 = .ok (.aload_n 0, 1) := by decide +kernel
theorem dX6_waitingAt_27 : decode cX6_waitingAt 27 = .ok (.getfield 48, 3) := by decide +kernel
theorem dX6_waitingAt_30 : decode cX6_waitingAt 30 = .ok (.ifCond .le 7, 3) := by decide +kernel
theorem dX6_waitingAt_33 : decode cX6_waitingAt 33 = .ok (.iconst 0, 1) := by decide +kernel
theorem dX6_waitingAt_34 : decode cX6_waitingAt 34 = .ok (.goto 14, 3) := by decide +kernel
theorem dX6_waitingAt_37 : decode cX6_waitingAt 37 = .ok (.aload_n 0, 1) := by decide +kernel
theorem dX6_waitingAt_38 : decode cX6_waitingAt 38 = .ok (.getfield 36, 3) := by decide +kernel
theorem dX6_waitingAt_41 : decode cX6_waitingAt 41 = .ok (.bipush 28, 2) := by decide +kernel
theorem dX6_waitingAt_43 : decode cX6_waitingAt 43 = .ok (.iconst 4, 1) := by decide +kernel
theorem dX6_waitingAt_44 : decode cX6_waitingAt 44 = .ok (.iload_n 1, 1) := by decide +kernel
theorem dX6_waitingAt_45 : decode cX6_waitingAt 45 = .ok (.imul, 1) := by decide +kernel
theorem dX6_waitingAt_46 : decode cX6_waitingAt 46 = .ok (.iadd, 1) := by decide +kernel
theorem dX6_waitingAt_47 : decode cX6_waitingAt 47 = .ok (.iaload, 1) := by decide +kernel
theorem dX6_waitingAt_48 : decode cX6_waitingAt 48 = .ok (.ireturn, 1) := by decide +kernel
theorem dX6_gases_0 : decode cX6_gases 0 = .ok (.iconst 1, 1) := by decide +kernel
theorem dX6_gases_1 : decode cX6_gases 1 = .ok (.istore_n 1, 1) := by decide +kernel
theorem dX6_gases_2 : decode cX6_gases 2 = .ok (.iload_n 1, 1) := by decide +kernel
theorem dX6_gases_3 : decode cX6_gases 3 = .ok (.aload_n 0, 1) := by decide +kernel
theorem dX6_gases_4 : decode cX6_gases 4 = .ok (.getfield 51, 3) := by decide +kernel
theorem dX6_gases_7 : decode cX6_gases 7 = .ok (.if_icmp .gt 42, 3) := by decide +kernel
theorem dX6_gases_10 : decode cX6_gases 10 = .ok (.aload_n 0, 1) := by decide +kernel
theorem dX6_gases_11 : decode cX6_gases 11 = .ok (.getfield 36, 3) := by decide +kernel
theorem dX6_gases_14 : decode cX6_gases 14 = .ok (.iconst 0, 1) := by decide +kernel
theorem dX6_gases_15 : decode cX6_gases 15 = .ok (.iload_n 1, 1) := by decide +kernel
theorem dX6_gases_16 : decode cX6_gases 16 = .ok (.iadd, 1) := by decide +kernel
theorem dX6_gases_17 : decode cX6_gases 17 = .ok (.dup2, 1) := by decide +kernel
theorem dX6_gases_18 : decode cX6_gases 18 = .ok (.iaload, 1) := by decide +kernel
theorem dX6_gases_19 : decode cX6_gases 19 = .ok (.aload_n 0, 1) := by decide +kernel
theorem dX6_gases_20 : decode cX6_gases 20 = .ok (.getfield 19, 3) := by decide +kernel
theorem dX6_gases_23 : decode cX6_gases 23 = .ok (.iload_n 1, 1) := by decide +kernel
theorem dX6_gases_24 : decode cX6_gases 24 = .ok (.iaload, 1) := by decide +kernel
theorem dX6_gases_25 : decode cX6_gases 25 = .ok (.iadd, 1) := by decide +kernel
theorem dX6_gases_26 : decode cX6_gases 26 = .ok (.iastore, 1) := by decide +kernel
theorem dX6_gases_27 : decode cX6_gases 27 = .ok (.aload_n 0, 1) := by decide +kernel
theorem dX6_gases_28 : decode cX6_gases 28 = .ok (.getfield 36, 3) := by decide +kernel
theorem dX6_gases_31 : decode cX6_gases 31 = .ok (.bipush 70, 2) := by decide +kernel
theorem dX6_gases_33 : decode cX6_gases 33 = .ok (.dup2, 1) := by decide +kernel
theorem dX6_gases_34 : decode cX6_gases 34 = .ok (.iaload, 1) := by decide +kernel
theorem dX6_gases_35 : decode cX6_gases 35 = .ok (.aload_n 0, 1) := by decide +kernel
theorem dX6_gases_36 : decode cX6_gases 36 = .ok (.getfield 19, 3) := by decide +kernel
theorem dX6_gases_39 : decode cX6_gases 39 = .ok (.iload_n 1, 1) := by decide +kernel
theorem dX6_gases_40 : decode cX6_gases 40 = .ok (.iaload, 1) := by decide +kernel
theorem dX6_gases_41 : decode cX6_gases 41 = .ok (.iadd, 1) := by decide +kernel
theorem dX6_gases_42 : decode cX6_gases 42 = .ok (.iastore, 1) := by decide +kernel
theorem dX6_gases_43 : decode cX6_gases 43 = .ok (.iinc 1 1, 3) := by decide +kernel
theorem dX6_gases_46 : decode cX6_gases 46 = .ok (.goto (-44), 3) := by decide +kernel
theorem dX6_gases_49 : decode cX6_gases 49 = .ok (.iconst 1, 1) := by decide +kernel
theorem dX6_gases_50 : decode cX6_gases 50 = .ok (.istore_n 1, 1) := by decide +kernel
theorem dX6_gases_51 : decode cX6_gases 51 = .ok (.iload_n 1, 1) := by decide +kernel
theorem dX6_gases_52 : decode cX6_gases 52 = .ok (.aload_n 0, 1) := by decide +kernel
theorem dX6_gases_53 : decode cX6_gases 53 = .ok (.getfield 51, 3) := by decide +kernel
theorem dX6_gases_56 : decode cX6_gases 56 = .ok (.if_icmp .gt 63, 3) := by decide +kernel
theorem dX6_gases_59 : decode cX6_gases 59 = .ok (.aload_n 0, 1) := by decide +kernel
theorem dX6_gases_60 : decode cX6_gases 60 = .ok (.getfield 36, 3) := by decide +kernel
theorem dX6_gases_63 : decode cX6_gases 63 = .ok (.iconst 0, 1) := by decide +kernel
theorem dX6_gases_64 : decode cX6_gases 64 = .ok (.iload_n 1, 1) := by decide +kernel
theorem dX6_gases_65 : decode cX6_gases 65 = .ok (.iadd, 1) := by decide +kernel
theorem dX6_gases_66 : decode cX6_gases 66 = .ok (.iaload, 1) := by decide +kernel
theorem dX6_gases_67 : decode cX6_gases 67 = .ok (.aload_n 0, 1) := by decide +kernel
theorem dX6_gases_68 : decode cX6_gases 68 = .ok (.iload_n 1, 1) := by decide +kernel
theorem dX6_gases_69 : decode cX6_gases 69 = .ok (.invokevirtual 72, 3) := by decide +kernel
theorem dX6_gases_72 : decode cX6_gases 72 = .ok (.aload_n 0, 1) := by decide +kernel
theorem dX6_gases_73 : decode cX6_gases 73 = .ok (.getfield 13, 3) := by decide +kernel
theorem dX6_gases_76 : decode cX6_gases 76 = .ok (.iload_n 1, 1) := by decide +kernel
theorem dX6_gases_77 : decode cX6_gases 77 = .ok (.iaload, 1) := by decide +kernel
theorem dX6_gases_78 : decode cX6_gases 78 = .ok (.invokestatic 116, 3) := by decide +kernel
theorem dX6_gases_81 : decode cX6_gases 81 = .ok (.imul, 1) := by decide +kernel
theorem dX6_gases_82 : decode cX6_gases 82 = .ok (.aload_n 0, 1) := by decide +kernel
theorem dX6_gases_83 : decode cX6_gases 83 = .ok (.getfield 13, 3) := by decide +kernel
theorem dX6_gases_86 : decode cX6_gases 86 = .ok (.iload_n 1, 1) := by decide +kernel
theorem dX6_gases_87 : decode cX6_gases 87 = .ok (.iaload, 1) := by decide +kernel
theorem dX6_gases_88 : decode cX6_gases 88 = .ok (.idiv, 1) := by decide +kernel
theorem dX6_gases_89 : decode cX6_gases 89 = .ok (.istore_n 2, 1) := by decide +kernel
theorem dX6_gases_90 : decode cX6_gases 90 = .ok (.aload_n 0, 1) := by decide +kernel
theorem dX6_gases_91 : decode cX6_gases 91 = .ok (.getfield 36, 3) := by decide +kernel
theorem dX6_gases_94 : decode cX6_gases 94 = .ok (.iconst 0, 1) := by decide +kernel
theorem dX6_gases_95 : decode cX6_gases 95 = .ok (.iload_n 1, 1) := by decide +kernel
theorem dX6_gases_96 : decode cX6_gases 96 = .ok (.iadd, 1) := by decide +kernel
theorem dX6_gases_97 : decode cX6_gases 97 = .ok (.dup2, 1) := by decide +kernel
theorem dX6_gases_98 : decode cX6_gases 98 = .ok (.iaload, 1) := by decide +kernel
theorem dX6_gases_99 : decode cX6_gases 99 = .ok (.iload_n 2, 1) := by decide +kernel
theorem dX6_gases_100 : decode cX6_gases 100 = .ok (.isub, 1) := by decide +kernel
theorem dX6_gases_101 : decode cX6_gases 101 = .ok (.iastore, 1) := by decide +kernel
theorem dX6_gases_102 : decode cX6_gases 102 = .ok (.aload_n 0, 1) := by decide +kernel
theorem dX6_gases_103 : decode cX6_gases 103 = .ok (.getfield 36, 3) := by decide +kernel
theorem dX6_gases_106 : decode cX6_gases 106 = .ok (.bipush 71, 2) := by decide +kernel
theorem dX6_gases_108 : decode cX6_gases 108 = .ok (.dup2, 1) := by decide +kernel
theorem dX6_gases_109 : decode cX6_gases 109 = .ok (.iaload, 1) := by decide +kernel
theorem dX6_gases_110 : decode cX6_gases 110 = .ok (.iload_n 2, 1) := by decide +kernel
theorem dX6_gases_111 : decode cX6_gases 111 = .ok (.iadd, 1) := by decide +kernel
theorem dX6_gases_112 : decode cX6_gases 112 = .ok (.iastore, 1) := by decide +kernel
theorem dX6_gases_113 : decode cX6_gases 113 = .ok (.iinc 1 1, 3) := by decide +kernel
theorem dX6_gases_116 : decode cX6_gases 116 = .ok (.goto (-65), 3) := by decide +kernel
theorem dX6_gases_119 : decode cX6_gases 119 = .ok (.return_, 1) := by decide +kernel
theorem dX6_way_0 : decode cX6_way 0 = .ok (.aload_n 0, 1) := by decide +kernel
theorem dX6_way_1 : decode cX6_way 1 = .ok (.getfield 9, 3) := by decide +kernel
theorem dX6_way_4 : decode cX6_way 4 = .ok (.iload_n 1, 1) := by decide +kernel
theorem dX6_way_5 : decode cX6_way 5 = .ok (.iaload, 1) := by decide +kernel
theorem dX6_way_6 : decode cX6_way 6 = .ok (.aload_n 0, 1) := by decide +kernel
theorem dX6_way_7 : decode cX6_way 7 = .ok (.getfield 9, 3) := by decide +kernel
theorem dX6_way_10 : decode cX6_way 10 = .ok (.iload_n 2, 1) := by decide +kernel
theorem dX6_way_11 : decode cX6_way 11 = .ok (.iaload, 1) := by decide +kernel
theorem dX6_way_12 : decode cX6_way 12 = .ok (.isub, 1) := by decide +kernel
theorem dX6_way_13 : decode cX6_way 13 = .ok (.invokestatic 122, 3) := by decide +kernel
theorem dX6_way_16 : decode cX6_way 16 = .ok (.aload_n 0, 1) := by decide +kernel
theorem dX6_way_17 : decode cX6_way 17 = .ok (.getfield 33, 3) := by decide +kernel
theorem dX6_way_20 : decode cX6_way 20 = .ok (.iadd, 1) := by decide +kernel
theorem dX6_way_21 : decode cX6_way 21 = .ok (.iconst 1, 1) := by decide +kernel
theorem dX6_way_22 : decode cX6_way 22 = .ok (.isub, 1) := by decide +kernel
theorem dX6_way_23 : decode cX6_way 23 = .ok (.aload_n 0, 1) := by decide +kernel
theorem dX6_way_24 : decode cX6_way 24 = .ok (.getfield 33, 3) := by decide +kernel
theorem dX6_way_27 : decode cX6_way 27 = .ok (.idiv, 1) := by decide +kernel
theorem dX6_way_28 : decode cX6_way 28 = .ok (.ireturn, 1) := by decide +kernel
theorem dX6_begins_0 : decode cX6_begins 0 = .ok (.iload_n 1, 1) := by decide +kernel
theorem dX6_begins_1 : decode cX6_begins 1 = .ok (.bipush 100, 2) := by decide +kernel
theorem dX6_begins_3 : decode cX6_begins 3 = .ok (.if_icmp .ne 7, 3) := by decide +kernel
theorem dX6_begins_6 : decode cX6_begins 6 = .ok (.iconst 0, 1) := by decide +kernel
theorem dX6_begins_7 : decode cX6_begins 7 = .ok (.goto 4, 3) := by decide +kernel
theorem dX6_begins_10 : decode cX6_begins 10 = .ok (.iload_n 2, 1) := by decide +kernel
theorem dX6_begins_11 : decode cX6_begins 11 = .ok (.istore 5, 2) := by decide +kernel
theorem dX6_begins_13 : decode cX6_begins 13 = .ok (.iload_n 1, 1) := by decide +kernel
theorem dX6_begins_14 : decode cX6_begins 14 = .ok (.bipush 100, 2) := by decide +kernel
theorem dX6_begins_16 : decode cX6_begins 16 = .ok (.if_icmp .ne 7, 3) := by decide +kernel
theorem dX6_begins_19 : decode cX6_begins 19 = .ok (.iload_n 2, 1) := by decide +kernel
theorem dX6_begins_20 : decode cX6_begins 20 = .ok (.goto 4, 3) := by decide +kernel
theorem dX6_begins_23 : decode cX6_begins 23 = .ok (.iconst 0, 1) := by decide +kernel
theorem dX6_begins_24 : decode cX6_begins 24 = .ok (.istore 6, 2) := by decide +kernel
theorem dX6_begins_26 : decode cX6_begins 26 = .ok (.aload_n 0, 1) := by decide +kernel
theorem dX6_begins_27 : decode cX6_begins 27 = .ok (.getfield 36, 3) := by decide +kernel
theorem dX6_begins_30 : decode cX6_begins 30 = .ok (.bipush 63, 2) := by decide +kernel
theorem dX6_begins_32 : decode cX6_begins 32 = .ok (.iload_n 1, 1) := by decide +kernel
theorem dX6_begins_33 : decode cX6_begins 33 = .ok (.iastore, 1) := by decide +kernel
theorem dX6_begins_34 : decode cX6_begins 34 = .ok (.aload_n 0, 1) := by decide +kernel
theorem dX6_begins_35 : decode cX6_begins 35 = .ok (.getfield 36, 3) := by decide +kernel
theorem dX6_begins_38 : decode cX6_begins 38 = .ok (.bipush 64, 2) := by decide +kernel
theorem dX6_begins_40 : decode cX6_begins 40 = .ok (.iload_n 2, 1) := by decide +kernel
theorem dX6_begins_41 : decode cX6_begins 41 = .ok (.iastore, 1) := by decide +kernel
theorem dX6_begins_42 : decode cX6_begins 42 = .ok (.aload_n 0, 1) := by decide +kernel
theorem dX6_begins_43 : decode cX6_begins 43 = .ok (.getfield 36, 3) := by decide +kernel
theorem dX6_begins_46 : decode cX6_begins 46 = .ok (.bipush 65, 2) := by decide +kernel
theorem dX6_begins_48 : decode cX6_begins 48 = .ok (.iload_n 3, 1) := by decide +kernel
theorem dX6_begins_49 : decode cX6_begins 49 = .ok (.iastore, 1) := by decide +kernel
theorem dX6_begins_50 : decode cX6_begins 50 = .ok (.aload_n 0, 1) := by decide +kernel
theorem dX6_begins_51 : decode cX6_begins 51 = .ok (.getfield 36, 3) := by decide +kernel
theorem dX6_begins_54 : decode cX6_begins 54 = .ok (.bipush 67, 2) := by decide +kernel
theorem dX6_begins_56 : decode cX6_begins 56 = .ok (.iload 4, 2) := by decide +kernel
theorem dX6_begins_58 : decode cX6_begins 58 = .ok (.iastore, 1) := by decide +kernel
theorem dX6_begins_59 : decode cX6_begins 59 = .ok (.aload_n 0, 1) := by decide +kernel
theorem dX6_begins_60 : decode cX6_begins 60 = .ok (.getfield 36, 3) := by decide +kernel
theorem dX6_begins_63 : decode cX6_begins 63 = .ok (.bipush 72, 2) := by decide +kernel
theorem dX6_begins_65 : decode cX6_begins 65 = .ok (.iload 4, 2) := by decide +kernel
theorem dX6_begins_67 : decode cX6_begins 67 = .ok (.iastore, 1) := by decide +kernel
theorem dX6_begins_68 : decode cX6_begins 68 = .ok (.aload_n 0, 1) := by decide +kernel
theorem dX6_begins_69 : decode cX6_begins 69 = .ok (.getfield 36, 3) := by decide +kernel
theorem dX6_begins_72 : decode cX6_begins 72 = .ok (.bipush 66, 2) := by decide +kernel
theorem dX6_begins_74 : decode cX6_begins 74 = .ok (.iconst 1, 1) := by decide +kernel
theorem dX6_begins_75 : decode cX6_begins 75 = .ok (.aload_n 0, 1) := by decide +kernel
theorem dX6_begins_76 : decode cX6_begins 76 = .ok (.aload_n 0, 1) := by decide +kernel
theorem dX6_begins_77 : decode cX6_begins 77 = .ok (.getfield 36, 3) := by decide +kernel
theorem dX6_begins_80 : decode cX6_begins 80 = .ok (.bipush 62, 2) := by decide +kernel
theorem dX6_begins_82 : decode cX6_begins 82 = .ok (.iaload, 1) := by decide +kernel
theorem dX6_begins_83 : decode cX6_begins 83 = .ok (.iload 5, 2) := by decide +kernel
theorem dX6_begins_85 : decode cX6_begins 85 = .ok (.invokevirtual 125, 3) := by decide +kernel
theorem dX6_begins_88 : decode cX6_begins 88 = .ok (.iadd, 1) := by decide +kernel
theorem dX6_begins_89 : decode cX6_begins 89 = .ok (.aload_n 0, 1) := by decide +kernel
theorem dX6_begins_90 : decode cX6_begins 90 = .ok (.iload 5, 2) := by decide +kernel
theorem dX6_begins_92 : decode cX6_begins 92 = .ok (.iload 6, 2) := by decide +kernel
theorem dX6_begins_94 : decode cX6_begins 94 = .ok (.invokevirtual 125, 3) := by decide +kernel
theorem dX6_begins_97 : decode cX6_begins 97 = .ok (.iadd, 1) := by decide +kernel
theorem dX6_begins_98 : decode cX6_begins 98 = .ok (.iastore, 1) := by decide +kernel
theorem dX6_begins_99 : decode cX6_begins 99 = .ok (.aload_n 0, 1) := by decide +kernel
theorem dX6_begins_100 : decode cX6_begins 100 = .ok (.getfield 36, 3) := by decide +kernel
theorem dX6_begins_103 : decode cX6_begins 103 = .ok (.iload_n 1, 1) := by decide +kernel
theorem dX6_begins_104 : decode cX6_begins 104 = .ok (.bipush 111, 2) := by decide +kernel
theorem dX6_begins_106 : decode cX6_begins 106 = .ok (.if_icmp .ne 8, 3) := by decide +kernel
theorem dX6_begins_109 : decode cX6_begins 109 = .ok (.bipush 14, 2) := by decide +kernel
theorem dX6_begins_111 : decode cX6_begins 111 = .ok (.goto 5, 3) := by decide +kernel
theorem dX6_begins_114 : decode cX6_begins 114 = .ok (.bipush 7, 2) := by decide +kernel
theorem dX6_begins_116 : decode cX6_begins 116 = .ok (.iload 5, 2) := by decide +kernel
theorem dX6_begins_118 : decode cX6_begins 118 = .ok (.iadd, 1) := by decide +kernel
theorem dX6_begins_119 : decode cX6_begins 119 = .ok (.dup2, 1) := by decide +kernel
theorem dX6_begins_120 : decode cX6_begins 120 = .ok (.iaload, 1) := by decide +kernel
theorem dX6_begins_121 : decode cX6_begins 121 = .ok (.iload_n 3, 1) := by decide +kernel
theorem dX6_begins_122 : decode cX6_begins 122 = .ok (.isub, 1) := by decide +kernel
theorem dX6_begins_123 : decode cX6_begins 123 = .ok (.iastore, 1) := by decide +kernel
theorem dX6_begins_124 : decode cX6_begins 124 = .ok (.return_, 1) := by decide +kernel
theorem dX6_fliesFrom_0 : decode cX6_fliesFrom 0 = .ok (.iconst 0, 1) := by decide +kernel
theorem dX6_fliesFrom_1 : decode cX6_fliesFrom 1 = .ok (.istore_n 1, 1) := by decide +kernel
theorem dX6_fliesFrom_2 : decode cX6_fliesFrom 2 = .ok (.iconst 1, 1) := by decide +kernel
theorem dX6_fliesFrom_3 : decode cX6_fliesFrom 3 = .ok (.istore_n 2, 1) := by decide +kernel
theorem dX6_fliesFrom_4 : decode cX6_fliesFrom 4 = .ok (.iload_n 2, 1) := by decide +kernel
theorem dX6_fliesFrom_5 : decode cX6_fliesFrom 5 = .ok (.aload_n 0, 1) := by decide +kernel
theorem dX6_fliesFrom_6 : decode cX6_fliesFrom 6 = .ok (.getfield 51, 3) := by decide +kernel
theorem dX6_fliesFrom_9 : decode cX6_fliesFrom 9 = .ok (.if_icmp .gt 62, 3) := by decide +kernel
theorem dX6_fliesFrom_12 : decode cX6_fliesFrom 12 = .ok (.aload_n 0, 1) := by decide +kernel
theorem dX6_fliesFrom_13 : decode cX6_fliesFrom 13 = .ok (.iload_n 2, 1) := by decide +kernel
theorem dX6_fliesFrom_14 : decode cX6_fliesFrom 14 = .ok (.invokevirtual 81, 3) := by decide +kernel
theorem dX6_fliesFrom_17 : decode cX6_fliesFrom 17 = .ok (.ifCond .eq 19, 3) := by decide +kernel
theorem dX6_fliesFrom_20 : decode cX6_fliesFrom 20 = .ok (.aload_n 0, 1) := by decide +kernel
theorem dX6_fliesFrom_21 : decode cX6_fliesFrom 21 = .ok (.getfield 36, 3) := by decide +kernel
theorem dX6_fliesFrom_24 : decode cX6_fliesFrom 24 = .ok (.bipush 7, 2) := by decide +kernel
theorem dX6_fliesFrom_26 : decode cX6_fliesFrom 26 = .ok (.iload_n 2, 1) := by decide +kernel
theorem dX6_fliesFrom_27 : decode cX6_fliesFrom 27 = .ok (.iadd, 1) := by decide +kernel
theorem dX6_fliesFrom_28 : decode cX6_fliesFrom 28 = .ok (.iaload, 1) := by decide +kernel
theorem dX6_fliesFrom_29 : decode cX6_fliesFrom 29 = .ok (.ifCond .le 7, 3) := by decide +kernel
theorem dX6_fliesFrom_32 : decode cX6_fliesFrom 32 = .ok (.iconst 1, 1) := by decide +kernel
theorem dX6_fliesFrom_33 : decode cX6_fliesFrom 33 = .ok (.goto 4, 3) := by decide +kernel
theorem dX6_fliesFrom_36 : decode cX6_fliesFrom 36 = .ok (.iconst 0, 1) := by decide +kernel
theorem dX6_fliesFrom_37 : decode cX6_fliesFrom 37 = .ok (.istore_n 3, 1) := by decide +kernel
theorem dX6_fliesFrom_38 : decode cX6_fliesFrom 38 = .ok (.iload_n 3, 1) := by decide +kernel
theorem dX6_fliesFrom_39 : decode cX6_fliesFrom 39 = .ok (.ifCond .eq 24, 3) := by decide +kernel
theorem dX6_fliesFrom_42 : decode cX6_fliesFrom 42 = .ok (.iload_n 1, 1) := by decide +kernel
theorem dX6_fliesFrom_43 : decode cX6_fliesFrom 43 = .ok (.ifCond .eq 16, 3) := by decide +kernel
theorem dX6_fliesFrom_46 : decode cX6_fliesFrom 46 = .ok (.aload_n 0, 1) := by decide +kernel
theorem dX6_fliesFrom_47 : decode cX6_fliesFrom 47 = .ok (.iload_n 2, 1) := by decide +kernel
theorem dX6_fliesFrom_48 : decode cX6_fliesFrom 48 = .ok (.invokevirtual 78, 3) := by decide +kernel
theorem dX6_fliesFrom_51 : decode cX6_fliesFrom 51 = .ok (.aload_n 0, 1) := by decide +kernel
theorem dX6_fliesFrom_52 : decode cX6_fliesFrom 52 = .ok (.iload_n 1, 1) := by decide +kernel
theorem dX6_fliesFrom_53 : decode cX6_fliesFrom 53 = .ok (.invokevirtual 78, 3) := by decide +kernel
theorem dX6_fliesFrom_56 : decode cX6_fliesFrom 56 = .ok (.if_icmp .le 7, 3) := by decide +kernel
theorem dX6_fliesFrom_59 : decode cX6_fliesFrom 59 = .ok (.iload_n 2, 1) := by decide +kernel
theorem dX6_fliesFrom_60 : decode cX6_fliesFrom 60 = .ok (.goto 4, 3) := by decide +kernel
theorem dX6_fliesFrom_63 : decode cX6_fliesFrom 63 = .ok (.iload_n 1, 1) := by decide +kernel
theorem dX6_fliesFrom_64 : decode cX6_fliesFrom 64 = .ok (.istore_n 1, 1) := by decide +kernel
theorem dX6_fliesFrom_65 : decode cX6_fliesFrom 65 = .ok (.iinc 2 1, 3) := by decide +kernel
theorem dX6_fliesFrom_68 : decode cX6_fliesFrom 68 = .ok (.goto (-64), 3) := by decide +kernel
theorem dX6_fliesFrom_71 : decode cX6_fliesFrom 71 = .ok (.iload_n 1, 1) := by decide +kernel
theorem dX6_fliesFrom_72 : decode cX6_fliesFrom 72 = .ok (.ifCond .le 25, 3) := by decide +kernel
theorem dX6_fliesFrom_75 : decode cX6_fliesFrom 75 = .ok (.aload_n 0, 1) := by decide +kernel
theorem dX6_fliesFrom_76 : decode cX6_fliesFrom 76 = .ok (.bipush 102, 2) := by decide +kernel
theorem dX6_fliesFrom_78 : decode cX6_fliesFrom 78 = .ok (.iload_n 1, 1) := by decide +kernel
theorem dX6_fliesFrom_79 : decode cX6_fliesFrom 79 = .ok (.bipush 12, 2) := by decide +kernel
theorem dX6_fliesFrom_81 : decode cX6_fliesFrom 81 = .ok (.aload_n 0, 1) := by decide +kernel
theorem dX6_fliesFrom_82 : decode cX6_fliesFrom 82 = .ok (.getfield 36, 3) := by decide +kernel
theorem dX6_fliesFrom_85 : decode cX6_fliesFrom 85 = .ok (.bipush 7, 2) := by decide +kernel
theorem dX6_fliesFrom_87 : decode cX6_fliesFrom 87 = .ok (.iload_n 1, 1) := by decide +kernel
theorem dX6_fliesFrom_88 : decode cX6_fliesFrom 88 = .ok (.iadd, 1) := by decide +kernel
theorem dX6_fliesFrom_89 : decode cX6_fliesFrom 89 = .ok (.iaload, 1) := by decide +kernel
theorem dX6_fliesFrom_90 : decode cX6_fliesFrom 90 = .ok (.invokestatic 116, 3) := by decide +kernel
theorem dX6_fliesFrom_93 : decode cX6_fliesFrom 93 = .ok (.iconst (-1), 1) := by decide +kernel
theorem dX6_fliesFrom_94 : decode cX6_fliesFrom 94 = .ok (.invokevirtual 128, 3) := by decide +kernel
theorem dX6_fliesFrom_97 : decode cX6_fliesFrom 97 = .ok (.iload_n 1, 1) := by decide +kernel
theorem dX6_fliesFrom_98 : decode cX6_fliesFrom 98 = .ok (.ifCond .le 7, 3) := by decide +kernel
theorem dX6_fliesFrom_101 : decode cX6_fliesFrom 101 = .ok (.iconst 1, 1) := by decide +kernel
theorem dX6_fliesFrom_102 : decode cX6_fliesFrom 102 = .ok (.goto 4, 3) := by decide +kernel
theorem dX6_fliesFrom_105 : decode cX6_fliesFrom 105 = .ok (.iconst 0, 1) := by decide +kernel
theorem dX6_fliesFrom_106 : decode cX6_fliesFrom 106 = .ok (.ireturn, 1) := by decide +kernel
theorem dX6_loadOf_0 : decode cX6_loadOf 0 = .ok (.iload_n 1, 1) := by decide +kernel
theorem dX6_loadOf_1 : decode cX6_loadOf 1 = .ok (.bipush 111, 2) := by decide +kernel
theorem dX6_loadOf_3 : decode cX6_loadOf 3 = .ok (.if_icmp .ne 18, 3) := by decide +kernel
theorem dX6_loadOf_6 : decode cX6_loadOf 6 = .ok (.bipush 20, 2) := by decide +kernel
theorem dX6_loadOf_8 : decode cX6_loadOf 8 = .ok (.aload_n 0, 1) := by decide +kernel
theorem dX6_loadOf_9 : decode cX6_loadOf 9 = .ok (.getfield 36, 3) := by decide +kernel
theorem dX6_loadOf_12 : decode cX6_loadOf 12 = .ok (.bipush 14, 2) := by decide +kernel
theorem dX6_loadOf_14 : decode cX6_loadOf 14 = .ok (.iload_n 2, 1) := by decide +kernel
theorem dX6_loadOf_15 : decode cX6_loadOf 15 = .ok (.iadd, 1) := by decide +kernel
theorem dX6_loadOf_16 : decode cX6_loadOf 16 = .ok (.iaload, 1) := by decide +kernel
theorem dX6_loadOf_17 : decode cX6_loadOf 17 = .ok (.invokestatic 116, 3) := by decide +kernel
theorem dX6_loadOf_20 : decode cX6_loadOf 20 = .ok (.ireturn, 1) := by decide +kernel
theorem dX6_loadOf_21 : decode cX6_loadOf 21 = .ok (.iload_n 1, 1) := by decide +kernel
theorem dX6_loadOf_22 : decode cX6_loadOf 22 = .ok (.bipush 117, 2) := by decide +kernel
theorem dX6_loadOf_24 : decode cX6_loadOf 24 = .ok (.if_icmp .ne 17, 3) := by decide +kernel
theorem dX6_loadOf_27 : decode cX6_loadOf 27 = .ok (.iload_n 3, 1) := by decide +kernel
theorem dX6_loadOf_28 : decode cX6_loadOf 28 = .ok (.aload_n 0, 1) := by decide +kernel
theorem dX6_loadOf_29 : decode cX6_loadOf 29 = .ok (.getfield 36, 3) := by decide +kernel
theorem dX6_loadOf_32 : decode cX6_loadOf 32 = .ok (.bipush 7, 2) := by decide +kernel
theorem dX6_loadOf_34 : decode cX6_loadOf 34 = .ok (.iload_n 2, 1) := by decide +kernel
theorem dX6_loadOf_35 : decode cX6_loadOf 35 = .ok (.iadd, 1) := by decide +kernel
theorem dX6_loadOf_36 : decode cX6_loadOf 36 = .ok (.iaload, 1) := by decide +kernel
theorem dX6_loadOf_37 : decode cX6_loadOf 37 = .ok (.invokestatic 116, 3) := by decide +kernel
theorem dX6_loadOf_40 : decode cX6_loadOf 40 = .ok (.ireturn, 1) := by decide +kernel
theorem dX6_loadOf_41 : decode cX6_loadOf 41 = .ok (.aload_n 0, 1) := by decide +kernel
theorem dX6_loadOf_42 : decode cX6_loadOf 42 = .ok (.iload_n 2, 1) := by decide +kernel
theorem dX6_loadOf_43 : decode cX6_loadOf 43 = .ok (.invokevirtual 81, 3) := by decide +kernel
theorem dX6_loadOf_46 : decode cX6_loadOf 46 = .ok (.ifCond .ne 11, 3) := by decide +kernel
theorem dX6_loadOf_49 : decode cX6_loadOf 49 = .ok (.aload_n 0, 1) := by decide +kernel
theorem dX6_loadOf_50 : decode cX6_loadOf 50 = .ok (.iload_n 2, 1) := by decide +kernel
theorem dX6_loadOf_51 : decode cX6_loadOf 51 = .ok (.invokevirtual 99, 3) := by decide +kernel
theorem dX6_loadOf_54 : decode cX6_loadOf 54 = .ok (.ifCond .eq 7, 3) := by decide +kernel
theorem dX6_loadOf_57 : decode cX6_loadOf 57 = .ok (.iconst 0, 1) := by decide +kernel
theorem dX6_loadOf_58 : decode cX6_loadOf 58 = .ok (.goto 14, 3) := by decide +kernel
theorem dX6_loadOf_61 : decode cX6_loadOf 61 = .ok (.iload_n 3, 1) := by decide +kernel
theorem dX6_loadOf_62 : decode cX6_loadOf 62 = .ok (.aload_n 0, 1) := by decide +kernel
theorem dX6_loadOf_63 : decode cX6_loadOf 63 = .ok (.getfield 36, 3) := by decide +kernel
theorem dX6_loadOf_66 : decode cX6_loadOf 66 = .ok (.bipush 7, 2) := by decide +kernel
theorem dX6_loadOf_68 : decode cX6_loadOf 68 = .ok (.iaload, 1) := by decide +kernel
theorem dX6_loadOf_69 : decode cX6_loadOf 69 = .ok (.invokestatic 116, 3) := by decide +kernel
theorem dX6_loadOf_72 : decode cX6_loadOf 72 = .ok (.ireturn, 1) := by decide +kernel
theorem dX6_takes_0 : decode cX6_takes 0 = .ok (.iconst 0, 1) := by decide +kernel
theorem dX6_takes_1 : decode cX6_takes 1 = .ok (.istore_n 2, 1) := by decide +kernel
theorem dX6_takes_2 : decode cX6_takes 2 = .ok (.iload_n 2, 1) := by decide +kernel
theorem dX6_takes_3 : decode cX6_takes 3 = .ok (.aload_n 0, 1) := by decide +kernel
theorem dX6_takes_4 : decode cX6_takes 4 = .ok (.getfield 36, 3) := by decide +kernel
theorem dX6_takes_7 : decode cX6_takes 7 = .ok (.bipush 60, 2) := by decide +kernel
theorem dX6_takes_9 : decode cX6_takes 9 = .ok (.iaload, 1) := by decide +kernel
theorem dX6_takes_10 : decode cX6_takes 10 = .ok (.if_icmp .ge 123, 3) := by decide +kernel
theorem dX6_takes_13 : decode cX6_takes 13 = .ok (.bipush 28, 2) := by decide +kernel
theorem dX6_takes_15 : decode cX6_takes 15 = .ok (.iconst 4, 1) := by decide +kernel
theorem dX6_takes_16 : decode cX6_takes 16 = .ok (.iload_n 2, 1) := by decide +kernel
theorem dX6_takes_17 : decode cX6_takes 17 = .ok (.imul, 1) := by decide +kernel
theorem dX6_takes_18 : decode cX6_takes 18 = .ok (.iadd, 1) := by decide +kernel
theorem dX6_takes_19 : decode cX6_takes 19 = .ok (.istore_n 3, 1) := by decide +kernel
theorem dX6_takes_20 : decode cX6_takes 20 = .ok (.aload_n 0, 1) := by decide +kernel
theorem dX6_takes_21 : decode cX6_takes 21 = .ok (.getfield 36, 3) := by decide +kernel
theorem dX6_takes_24 : decode cX6_takes 24 = .ok (.iload_n 3, 1) := by decide +kernel
theorem dX6_takes_25 : decode cX6_takes 25 = .ok (.iconst 1, 1) := by decide +kernel
theorem dX6_takes_26 : decode cX6_takes 26 = .ok (.iadd, 1) := by decide +kernel
theorem dX6_takes_27 : decode cX6_takes 27 = .ok (.iaload, 1) := by decide +kernel
theorem dX6_takes_28 : decode cX6_takes 28 = .ok (.bipush 111, 2) := by decide +kernel
theorem dX6_takes_30 : decode cX6_takes 30 = .ok (.if_icmp .ne 7, 3) := by decide +kernel
theorem dX6_takes_33 : decode cX6_takes 33 = .ok (.iconst 1, 1) := by decide +kernel
theorem dX6_takes_34 : decode cX6_takes 34 = .ok (.goto 4, 3) := by decide +kernel
theorem dX6_takes_37 : decode cX6_takes 37 = .ok (.iconst 0, 1) := by decide +kernel
theorem dX6_takes_38 : decode cX6_takes 38 = .ok (.iload_n 1, 1) := by decide +kernel
theorem dX6_takes_39 : decode cX6_takes 39 = .ok (.if_icmp .eq 9, 3) := by decide +kernel
theorem dX6_takes_42 : decode cX6_takes 42 = .ok (.iinc 2 1, 3) := by decide +kernel
theorem dX6_takes_45 : decode cX6_takes 45 = .ok (.goto (-43), 3) := by decide +kernel
theorem dX6_takes_48 : decode cX6_takes 48 = .ok (.aload_n 0, 1) := by decide +kernel
theorem dX6_takes_49 : decode cX6_takes 49 = .ok (.getfield 36, 3) := by decide +kernel
theorem dX6_takes_52 : decode cX6_takes 52 = .ok (.iload_n 3, 1) := by decide +kernel
theorem dX6_takes_53 : decode cX6_takes 53 = .ok (.iaload, 1) := by decide +kernel
theorem dX6_takes_54 : decode cX6_takes 54 = .ok (.istore 4, 2) := by decide +kernel
theorem dX6_takes_56 : decode cX6_takes 56 = .ok (.aload_n 0, 1) := by decide +kernel
theorem dX6_takes_57 : decode cX6_takes 57 = .ok (.getfield 36, 3) := by decide +kernel
theorem dX6_takes_60 : decode cX6_takes 60 = .ok (.iload_n 3, 1) := by decide +kernel
theorem dX6_takes_61 : decode cX6_takes 61 = .ok (.iconst 1, 1) := by decide +kernel
theorem dX6_takes_62 : decode cX6_takes 62 = .ok (.iadd, 1) := by decide +kernel
theorem dX6_takes_63 : decode cX6_takes 63 = .ok (.iaload, 1) := by decide +kernel
theorem dX6_takes_64 : decode cX6_takes 64 = .ok (.i2c, 1) := by decide +kernel
theorem dX6_takes_65 : decode cX6_takes 65 = .ok (.istore 5, 2) := by decide +kernel
theorem dX6_takes_67 : decode cX6_takes 67 = .ok (.aload_n 0, 1) := by decide +kernel
theorem dX6_takes_68 : decode cX6_takes 68 = .ok (.getfield 36, 3) := by decide +kernel
theorem dX6_takes_71 : decode cX6_takes 71 = .ok (.iload_n 3, 1) := by decide +kernel
theorem dX6_takes_72 : decode cX6_takes 72 = .ok (.iconst 2, 1) := by decide +kernel
theorem dX6_takes_73 : decode cX6_takes 73 = .ok (.iadd, 1) := by decide +kernel
theorem dX6_takes_74 : decode cX6_takes 74 = .ok (.iaload, 1) := by decide +kernel
theorem dX6_takes_75 : decode cX6_takes 75 = .ok (.istore 6, 2) := by decide +kernel
theorem dX6_takes_77 : decode cX6_takes 77 = .ok (.aload_n 0, 1) := by decide +kernel
theorem dX6_takes_78 : decode cX6_takes 78 = .ok (.iload 5, 2) := by decide +kernel
theorem dX6_takes_80 : decode cX6_takes 80 = .ok (.iload 6, 2) := by decide +kernel
theorem dX6_takes_82 : decode cX6_takes 82 = .ok (.aload_n 0, 1) := by decide +kernel
theorem dX6_takes_83 : decode cX6_takes 83 = .ok (.getfield 36, 3) := by decide +kernel
theorem dX6_takes_86 : decode cX6_takes 86 = .ok (.iload_n 3, 1) := by decide +kernel
theorem dX6_takes_87 : decode cX6_takes 87 = .ok (.iconst 3, 1) := by decide +kernel
theorem dX6_takes_88 : decode cX6_takes 88 = .ok (.iadd, 1) := by decide +kernel
theorem dX6_takes_89 : decode cX6_takes 89 = .ok (.iaload, 1) := by decide +kernel
theorem dX6_takes_90 : decode cX6_takes 90 = .ok (.invokevirtual 132, 3) := by decide +kernel
theorem dX6_takes_93 : decode cX6_takes 93 = .ok (.istore 7, 2) := by decide +kernel
theorem dX6_takes_95 : decode cX6_takes 95 = .ok (.aload_n 0, 1) := by decide +kernel
theorem dX6_takes_96 : decode cX6_takes 96 = .ok (.iload_n 2, 1) := by decide +kernel
theorem dX6_takes_97 : decode cX6_takes 97 = .ok (.invokevirtual 112, 3) := by decide +kernel
theorem dX6_takes_100 : decode cX6_takes 100 = .ok (.iload 7, 2) := by decide +kernel
theorem dX6_takes_102 : decode cX6_takes 102 = .ok (.ifCond .le 17, 3) := by decide +kernel
theorem dX6_takes_105 : decode cX6_takes 105 = .ok (.aload_n 0, 1) := by decide +kernel
theorem dX6_takes_106 : decode cX6_takes 106 = .ok (.iload 5, 2) := by decide +kernel
theorem dX6_takes_108 : decode cX6_takes 108 = .ok (.iload 6, 2) := by decide +kernel
theorem dX6_takes_110 : decode cX6_takes 110 = .ok (.iload 7, 2) := by decide +kernel
theorem dX6_takes_112 : decode cX6_takes 112 = .ok (.iload 4, 2) := by decide +kernel
theorem dX6_takes_114 : decode cX6_takes 114 = .ok (.invokevirtual 128, 3) := by decide +kernel
theorem dX6_takes_117 : decode cX6_takes 117 = .ok (.iconst 1, 1) := by decide +kernel
theorem dX6_takes_118 : decode cX6_takes 118 = .ok (.ireturn, 1) := by decide +kernel
theorem dX6_takes_119 : decode cX6_takes 119 = .ok (.aload_n 0, 1) := by decide +kernel
theorem dX6_takes_120 : decode cX6_takes 120 = .ok (.getfield 36, 3) := by decide +kernel
theorem dX6_takes_123 : decode cX6_takes 123 = .ok (.bipush 69, 2) := by decide +kernel
theorem dX6_takes_125 : decode cX6_takes 125 = .ok (.dup2, 1) := by decide +kernel
theorem dX6_takes_126 : decode cX6_takes 126 = .ok (.iaload, 1) := by decide +kernel
theorem dX6_takes_127 : decode cX6_takes 127 = .ok (.iconst 1, 1) := by decide +kernel
theorem dX6_takes_128 : decode cX6_takes 128 = .ok (.iadd, 1) := by decide +kernel
theorem dX6_takes_129 : decode cX6_takes 129 = .ok (.iastore, 1) := by decide +kernel
theorem dX6_takes_130 : decode cX6_takes 130 = .ok (.goto (-128), 3) := by decide +kernel
theorem dX6_takes_133 : decode cX6_takes 133 = .ok (.iconst 0, 1) := by decide +kernel
theorem dX6_takes_134 : decode cX6_takes 134 = .ok (.ireturn, 1) := by decide +kernel
theorem dX6_ends_0 : decode cX6_ends 0 = .ok (.aload_n 0, 1) := by decide +kernel
theorem dX6_ends_1 : decode cX6_ends 1 = .ok (.getfield 36, 3) := by decide +kernel
theorem dX6_ends_4 : decode cX6_ends 4 = .ok (.bipush 63, 2) := by decide +kernel
theorem dX6_ends_6 : decode cX6_ends 6 = .ok (.iaload, 1) := by decide +kernel
theorem dX6_ends_7 : decode cX6_ends 7 = .ok (.bipush 100, 2) := by decide +kernel
theorem dX6_ends_9 : decode cX6_ends 9 = .ok (.if_icmp .ne 13, 3) := by decide +kernel
theorem dX6_ends_12 : decode cX6_ends 12 = .ok (.aload_n 0, 1) := by decide +kernel
theorem dX6_ends_13 : decode cX6_ends 13 = .ok (.getfield 36, 3) := by decide +kernel
theorem dX6_ends_16 : decode cX6_ends 16 = .ok (.bipush 64, 2) := by decide +kernel
theorem dX6_ends_18 : decode cX6_ends 18 = .ok (.iaload, 1) := by decide +kernel
theorem dX6_ends_19 : decode cX6_ends 19 = .ok (.goto 4, 3) := by decide +kernel
theorem dX6_ends_22 : decode cX6_ends 22 = .ok (.iconst 0, 1) := by decide +kernel
theorem dX6_ends_23 : decode cX6_ends 23 = .ok (.istore_n 1, 1) := by decide +kernel
theorem dX6_ends_24 : decode cX6_ends 24 = .ok (.aload_n 0, 1) := by decide +kernel
theorem dX6_ends_25 : decode cX6_ends 25 = .ok (.getfield 36, 3) := by decide +kernel
theorem dX6_ends_28 : decode cX6_ends 28 = .ok (.aload_n 0, 1) := by decide +kernel
theorem dX6_ends_29 : decode cX6_ends 29 = .ok (.getfield 36, 3) := by decide +kernel
theorem dX6_ends_32 : decode cX6_ends 32 = .ok (.bipush 63, 2) := by decide +kernel
theorem dX6_ends_34 : decode cX6_ends 34 = .ok (.iaload, 1) := by decide +kernel
theorem dX6_ends_35 : decode cX6_ends 35 = .ok (.bipush 111, 2) := by decide +kernel
theorem dX6_ends_37 : decode cX6_ends 37 = .ok (.if_icmp .ne 8, 3) := by decide +kernel
theorem dX6_ends_40 : decode cX6_ends 40 = .ok (.bipush 14, 2) := by decide +kernel
theorem dX6_ends_42 : decode cX6_ends 42 = .ok (.goto 5, 3) := by decide +kernel
theorem dX6_ends_45 : decode cX6_ends 45 = .ok (.bipush 7, 2) := by decide +kernel
theorem dX6_ends_47 : decode cX6_ends 47 = .ok (.iload_n 1, 1) := by decide +kernel
theorem dX6_ends_48 : decode cX6_ends 48 = .ok (.iadd, 1) := by decide +kernel
theorem dX6_ends_49 : decode cX6_ends 49 = .ok (.dup2, 1) := by decide +kernel
theorem dX6_ends_50 : decode cX6_ends 50 = .ok (.iaload, 1) := by decide +kernel
theorem dX6_ends_51 : decode cX6_ends 51 = .ok (.aload_n 0, 1) := by decide +kernel
theorem dX6_ends_52 : decode cX6_ends 52 = .ok (.getfield 36, 3) := by decide +kernel
theorem dX6_ends_55 : decode cX6_ends 55 = .ok (.bipush 65, 2) := by decide +kernel
theorem dX6_ends_57 : decode cX6_ends 57 = .ok (.iaload, 1) := by decide +kernel
theorem dX6_ends_58 : decode cX6_ends 58 = .ok (.iadd, 1) := by decide +kernel
theorem dX6_ends_59 : decode cX6_ends 59 = .ok (.iastore, 1) := by decide +kernel
theorem dX6_ends_60 : decode cX6_ends 60 = .ok (.aload_n 0, 1) := by decide +kernel
theorem dX6_ends_61 : decode cX6_ends 61 = .ok (.getfield 36, 3) := by decide +kernel
theorem dX6_ends_64 : decode cX6_ends 64 = .ok (.bipush 62, 2) := by decide +kernel
theorem dX6_ends_66 : decode cX6_ends 66 = .ok (.iload_n 1, 1) := by decide +kernel
theorem dX6_ends_67 : decode cX6_ends 67 = .ok (.iastore, 1) := by decide +kernel
theorem dX6_ends_68 : decode cX6_ends 68 = .ok (.aload_n 0, 1) := by decide +kernel
theorem dX6_ends_69 : decode cX6_ends 69 = .ok (.getfield 36, 3) := by decide +kernel
theorem dX6_ends_72 : decode cX6_ends 72 = .ok (.bipush 63, 2) := by decide +kernel
theorem dX6_ends_74 : decode cX6_ends 74 = .ok (.bipush 45, 2) := by decide +kernel
theorem dX6_ends_76 : decode cX6_ends 76 = .ok (.iastore, 1) := by decide +kernel
theorem dX6_ends_77 : decode cX6_ends 77 = .ok (.aload_n 0, 1) := by decide +kernel
theorem dX6_ends_78 : decode cX6_ends 78 = .ok (.getfield 36, 3) := by decide +kernel
theorem dX6_ends_81 : decode cX6_ends 81 = .ok (.bipush 67, 2) := by decide +kernel
theorem dX6_ends_83 : decode cX6_ends 83 = .ok (.iconst (-1), 1) := by decide +kernel
theorem dX6_ends_84 : decode cX6_ends 84 = .ok (.iastore, 1) := by decide +kernel
theorem dX6_ends_85 : decode cX6_ends 85 = .ok (.aload_n 0, 1) := by decide +kernel
theorem dX6_ends_86 : decode cX6_ends 86 = .ok (.getfield 36, 3) := by decide +kernel
theorem dX6_ends_89 : decode cX6_ends 89 = .ok (.bipush 68, 2) := by decide +kernel
theorem dX6_ends_91 : decode cX6_ends 91 = .ok (.dup2, 1) := by decide +kernel
theorem dX6_ends_92 : decode cX6_ends 92 = .ok (.iaload, 1) := by decide +kernel
theorem dX6_ends_93 : decode cX6_ends 93 = .ok (.iconst 1, 1) := by decide +kernel
theorem dX6_ends_94 : decode cX6_ends 94 = .ok (.iadd, 1) := by decide +kernel
theorem dX6_ends_95 : decode cX6_ends 95 = .ok (.iastore, 1) := by decide +kernel
theorem dX6_ends_96 : decode cX6_ends 96 = .ok (.return_, 1) := by decide +kernel
theorem dX6_minute_0 : decode cX6_minute 0 = .ok (.aload_n 0, 1) := by decide +kernel
theorem dX6_minute_1 : decode cX6_minute 1 = .ok (.invokevirtual 87, 3) := by decide +kernel
theorem dX6_minute_4 : decode cX6_minute 4 = .ok (.aload_n 0, 1) := by decide +kernel
theorem dX6_minute_5 : decode cX6_minute 5 = .ok (.getfield 36, 3) := by decide +kernel
theorem dX6_minute_8 : decode cX6_minute 8 = .ok (.bipush 63, 2) := by decide +kernel
theorem dX6_minute_10 : decode cX6_minute 10 = .ok (.iaload, 1) := by decide +kernel
theorem dX6_minute_11 : decode cX6_minute 11 = .ok (.bipush 45, 2) := by decide +kernel
theorem dX6_minute_13 : decode cX6_minute 13 = .ok (.if_icmp .ne 26, 3) := by decide +kernel
theorem dX6_minute_16 : decode cX6_minute 16 = .ok (.aload_n 0, 1) := by decide +kernel
theorem dX6_minute_17 : decode cX6_minute 17 = .ok (.invokevirtual 136, 3) := by decide +kernel
theorem dX6_minute_20 : decode cX6_minute 20 = .ok (.ifCond .ne 19, 3) := by decide +kernel
theorem dX6_minute_23 : decode cX6_minute 23 = .ok (.aload_n 0, 1) := by decide +kernel
theorem dX6_minute_24 : decode cX6_minute 24 = .ok (.iconst 0, 1) := by decide +kernel
theorem dX6_minute_25 : decode cX6_minute 25 = .ok (.invokevirtual 140, 3) := by decide +kernel
theorem dX6_minute_28 : decode cX6_minute 28 = .ok (.ifCond .ne 11, 3) := by decide +kernel
theorem dX6_minute_31 : decode cX6_minute 31 = .ok (.aload_n 0, 1) := by decide +kernel
theorem dX6_minute_32 : decode cX6_minute 32 = .ok (.iconst 1, 1) := by decide +kernel
theorem dX6_minute_33 : decode cX6_minute 33 = .ok (.invokevirtual 140, 3) := by decide +kernel
theorem dX6_minute_36 : decode cX6_minute 36 = .ok (.ifCond .eq 7, 3) := by decide +kernel
theorem dX6_minute_39 : decode cX6_minute 39 = .ok (.iconst 1, 1) := by decide +kernel
theorem dX6_minute_40 : decode cX6_minute 40 = .ok (.goto 4, 3) := by decide +kernel
theorem dX6_minute_43 : decode cX6_minute 43 = .ok (.iconst 0, 1) := by decide +kernel
theorem dX6_minute_44 : decode cX6_minute 44 = .ok (.istore_n 1, 1) := by decide +kernel
theorem dX6_minute_45 : decode cX6_minute 45 = .ok (.iload_n 1, 1) := by decide +kernel
theorem dX6_minute_46 : decode cX6_minute 46 = .ok (.ifCond .eq 28, 3) := by decide +kernel
theorem dX6_minute_49 : decode cX6_minute 49 = .ok (.aload_n 0, 1) := by decide +kernel
theorem dX6_minute_50 : decode cX6_minute 50 = .ok (.getfield 36, 3) := by decide +kernel
theorem dX6_minute_53 : decode cX6_minute 53 = .ok (.bipush 66, 2) := by decide +kernel
theorem dX6_minute_55 : decode cX6_minute 55 = .ok (.dup2, 1) := by decide +kernel
theorem dX6_minute_56 : decode cX6_minute 56 = .ok (.iaload, 1) := by decide +kernel
theorem dX6_minute_57 : decode cX6_minute 57 = .ok (.iconst 1, 1) := by decide +kernel
theorem dX6_minute_58 : decode cX6_minute 58 = .ok (.isub, 1) := by decide +kernel
theorem dX6_minute_59 : decode cX6_minute 59 = .ok (.iastore, 1) := by decide +kernel
theorem dX6_minute_60 : decode cX6_minute 60 = .ok (.aload_n 0, 1) := by decide +kernel
theorem dX6_minute_61 : decode cX6_minute 61 = .ok (.getfield 36, 3) := by decide +kernel
theorem dX6_minute_64 : decode cX6_minute 64 = .ok (.bipush 66, 2) := by decide +kernel
theorem dX6_minute_66 : decode cX6_minute 66 = .ok (.iaload, 1) := by decide +kernel
theorem dX6_minute_67 : decode cX6_minute 67 = .ok (.ifCond .ne 7, 3) := by decide +kernel
theorem dX6_minute_70 : decode cX6_minute 70 = .ok (.aload_n 0, 1) := by decide +kernel
theorem dX6_minute_71 : decode cX6_minute 71 = .ok (.invokevirtual 144, 3) := by decide +kernel
theorem dX6_minute_74 : decode cX6_minute 74 = .ok (.aload_n 0, 1) := by decide +kernel
theorem dX6_minute_75 : decode cX6_minute 75 = .ok (.getfield 36, 3) := by decide +kernel
theorem dX6_minute_78 : decode cX6_minute 78 = .ok (.bipush 61, 2) := by decide +kernel
theorem dX6_minute_80 : decode cX6_minute 80 = .ok (.dup2, 1) := by decide +kernel
theorem dX6_minute_81 : decode cX6_minute 81 = .ok (.iaload, 1) := by decide +kernel
theorem dX6_minute_82 : decode cX6_minute 82 = .ok (.iconst 1, 1) := by decide +kernel
theorem dX6_minute_83 : decode cX6_minute 83 = .ok (.iadd, 1) := by decide +kernel
theorem dX6_minute_84 : decode cX6_minute 84 = .ok (.iastore, 1) := by decide +kernel
theorem dX6_minute_85 : decode cX6_minute 85 = .ok (.return_, 1) := by decide +kernel
theorem dX6_pass_0 : decode cX6_pass 0 = .ok (.aload_n 0, 1) := by decide +kernel
theorem dX6_pass_1 : decode cX6_pass 1 = .ok (.iload_n 1, 1) := by decide +kernel
theorem dX6_pass_2 : decode cX6_pass 2 = .ok (.iconst 1, 1) := by decide +kernel
theorem dX6_pass_3 : decode cX6_pass 3 = .ok (.bipush 60, 2) := by decide +kernel
theorem dX6_pass_5 : decode cX6_pass 5 = .ok (.invokestatic 54, 3) := by decide +kernel
theorem dX6_pass_8 : decode cX6_pass 8 = .ok (.ifCond .ne 7, 3) := by decide +kernel
theorem dX6_pass_11 : decode cX6_pass 11 = .ok (.iconst 1, 1) := by decide +kernel
theorem dX6_pass_12 : decode cX6_pass 12 = .ok (.goto 23, 3) := by decide +kernel
theorem dX6_pass_15 : decode cX6_pass 15 = .ok (.aload_n 0, 1) := by decide +kernel
theorem dX6_pass_16 : decode cX6_pass 16 = .ok (.getfield 36, 3) := by decide +kernel
theorem dX6_pass_19 : decode cX6_pass 19 = .ok (.bipush 61, 2) := by decide +kernel
theorem dX6_pass_21 : decode cX6_pass 21 = .ok (.iaload, 1) := by decide +kernel
theorem dX6_pass_22 : decode cX6_pass 22 = .ok (.iload_n 1, 1) := by decide +kernel
theorem dX6_pass_23 : decode cX6_pass 23 = .ok (.iadd, 1) := by decide +kernel
theorem dX6_pass_24 : decode cX6_pass 24 = .ok (.sipush 5000, 3) := by decide +kernel
theorem dX6_pass_27 : decode cX6_pass 27 = .ok (.if_icmp .le 7, 3) := by decide +kernel
theorem dX6_pass_30 : decode cX6_pass 30 = .ok (.iconst 2, 1) := by decide +kernel
theorem dX6_pass_31 : decode cX6_pass 31 = .ok (.goto 4, 3) := by decide +kernel
theorem dX6_pass_34 : decode cX6_pass 34 = .ok (.iconst 0, 1) := by decide +kernel
theorem dX6_pass_35 : decode cX6_pass 35 = .ok (.putfield 48, 3) := by decide +kernel
theorem dX6_pass_38 : decode cX6_pass 38 = .ok (.iconst 0, 1) := by decide +kernel
theorem dX6_pass_39 : decode cX6_pass 39 = .ok (.istore_n 2, 1) := by decide +kernel
theorem dX6_pass_40 : decode cX6_pass 40 = .ok (.iload_n 2, 1) := by decide +kernel
theorem dX6_pass_41 : decode cX6_pass 41 = .ok (.iload_n 1, 1) := by decide +kernel
theorem dX6_pass_42 : decode cX6_pass 42 = .ok (.if_icmp .ge 20, 3) := by decide +kernel
theorem dX6_pass_45 : decode cX6_pass 45 = .ok (.aload_n 0, 1) := by decide +kernel
theorem dX6_pass_46 : decode cX6_pass 46 = .ok (.getfield 48, 3) := by decide +kernel
theorem dX6_pass_49 : decode cX6_pass 49 = .ok (.ifCond .ne 13, 3) := by decide +kernel
theorem dX6_pass_52 : decode cX6_pass 52 = .ok (.aload_n 0, 1) := by decide +kernel
theorem dX6_pass_53 : decode cX6_pass 53 = .ok (.invokevirtual 147, 3) := by decide +kernel
theorem dX6_pass_56 : decode cX6_pass 56 = .ok (.iinc 2 1, 3) := by decide +kernel
theorem dX6_pass_59 : decode cX6_pass 59 = .ok (.goto (-19), 3) := by decide +kernel
theorem dX6_pass_62 : decode cX6_pass 62 = .ok (.aload_n 0, 1) := by decide +kernel
theorem dX6_pass_63 : decode cX6_pass 63 = .ok (.getfield 48, 3) := by decide +kernel
theorem dX6_pass_66 : decode cX6_pass 66 = .ok (.ifCond .le 7, 3) := by decide +kernel
theorem dX6_pass_69 : decode cX6_pass 69 = .ok (.iconst 0, 1) := by decide +kernel
theorem dX6_pass_70 : decode cX6_pass 70 = .ok (.goto 10, 3) := by decide +kernel
theorem dX6_pass_73 : decode cX6_pass 73 = .ok (.aload_n 0, 1) := by decide +kernel
theorem dX6_pass_74 : decode cX6_pass 74 = .ok (.getfield 36, 3) := by decide +kernel
theorem dX6_pass_77 : decode cX6_pass 77 = .ok (.bipush 61, 2) := by decide +kernel
theorem dX6_pass_79 : decode cX6_pass 79 = .ok (.iaload, 1) := by decide +kernel
theorem dX6_pass_80 : decode cX6_pass 80 = .ok (.ireturn, 1) := by decide +kernel
theorem dX6_clock_0 : decode cX6_clock 0 = .ok (.aload_n 0, 1) := by decide +kernel
theorem dX6_clock_1 : decode cX6_clock 1 = .ok (.iconst 0, 1) := by decide +kernel
theorem dX6_clock_2 : decode cX6_clock 2 = .ok (.putfield 48, 3) := by decide +kernel
theorem dX6_clock_5 : decode cX6_clock 5 = .ok (.aload_n 0, 1) := by decide +kernel
theorem dX6_clock_6 : decode cX6_clock 6 = .ok (.getfield 36, 3) := by decide +kernel
theorem dX6_clock_9 : decode cX6_clock 9 = .ok (.bipush 61, 2) := by decide +kernel
theorem dX6_clock_11 : decode cX6_clock 11 = .ok (.iaload, 1) := by decide +kernel
theorem dX6_clock_12 : decode cX6_clock 12 = .ok (.ireturn, 1) := by decide +kernel
theorem dX6_tripKind_0 : decode cX6_tripKind 0 = .ok (.aload_n 0, 1) := by decide +kernel
theorem dX6_tripKind_1 : decode cX6_tripKind 1 = .ok (.iconst 0, 1) := by decide +kernel
theorem dX6_tripKind_2 : decode cX6_tripKind 2 = .ok (.putfield 48, 3) := by decide +kernel
theorem dX6_tripKind_5 : decode cX6_tripKind 5 = .ok (.aload_n 0, 1) := by decide +kernel
theorem dX6_tripKind_6 : decode cX6_tripKind 6 = .ok (.getfield 36, 3) := by decide +kernel
theorem dX6_tripKind_9 : decode cX6_tripKind 9 = .ok (.bipush 63, 2) := by decide +kernel
theorem dX6_tripKind_11 : decode cX6_tripKind 11 = .ok (.iaload, 1) := by decide +kernel
theorem dX6_tripKind_12 : decode cX6_tripKind 12 = .ok (.i2c, 1) := by decide +kernel
theorem dX6_tripKind_13 : decode cX6_tripKind 13 = .ok (.ireturn, 1) := by decide +kernel
theorem dX6_noTrip_0 : decode cX6_noTrip 0 = .ok (.aload_n 0, 1) := by decide +kernel
theorem dX6_noTrip_1 : decode cX6_noTrip 1 = .ok (.aload_n 0, 1) := by decide +kernel
theorem dX6_noTrip_2 : decode cX6_noTrip 2 = .ok (.getfield 36, 3) := by decide +kernel
theorem dX6_noTrip_5 : decode cX6_noTrip 5 = .ok (.bipush 63, 2) := by decide +kernel
theorem dX6_noTrip_7 : decode cX6_noTrip 7 = .ok (.iaload, 1) := by decide +kernel
theorem dX6_noTrip_8 : decode cX6_noTrip 8 = .ok (.bipush 45, 2) := by decide +kernel
theorem dX6_noTrip_10 : decode cX6_noTrip 10 = .ok (.if_icmp .ne 7, 3) := by decide +kernel
theorem dX6_noTrip_13 : decode cX6_noTrip 13 = .ok (.iconst 1, 1) := by decide +kernel
theorem dX6_noTrip_14 : decode cX6_noTrip 14 = .ok (.goto 4, 3) := by decide +kernel
theorem dX6_noTrip_17 : decode cX6_noTrip 17 = .ok (.iconst 0, 1) := by decide +kernel
theorem dX6_noTrip_18 : decode cX6_noTrip 18 = .ok (.putfield 48, 3) := by decide +kernel
theorem dX6_noTrip_21 : decode cX6_noTrip 21 = .ok (.aload_n 0, 1) := by decide +kernel
theorem dX6_noTrip_22 : decode cX6_noTrip 22 = .ok (.getfield 48, 3) := by decide +kernel
theorem dX6_noTrip_25 : decode cX6_noTrip 25 = .ok (.ifCond .le 7, 3) := by decide +kernel
theorem dX6_noTrip_28 : decode cX6_noTrip 28 = .ok (.iconst 1, 1) := by decide +kernel
theorem dX6_noTrip_29 : decode cX6_noTrip 29 = .ok (.goto 4, 3) := by decide +kernel
theorem dX6_noTrip_32 : decode cX6_noTrip 32 = .ok (.iconst 0, 1) := by decide +kernel
theorem dX6_noTrip_33 : decode cX6_noTrip 33 = .ok (.ireturn, 1) := by decide +kernel
theorem dX6_tripLevel_0 : decode cX6_tripLevel 0 = .ok (.aload_n 0, 1) := by decide +kernel
theorem dX6_tripLevel_1 : decode cX6_tripLevel 1 = .ok (.invokevirtual 150, 3) := by decide +kernel
theorem dX6_tripLevel_4 : decode cX6_tripLevel 4 = .ok (.ifCond .eq 7, 3) := by decide +kernel
theorem dX6_tripLevel_7 : decode cX6_tripLevel 7 = .ok (.iconst 0, 1) := by decide +kernel
theorem dX6_tripLevel_8 : decode cX6_tripLevel 8 = .ok (.goto 10, 3) := by decide +kernel
theorem dX6_tripLevel_11 : decode cX6_tripLevel 11 = .ok (.aload_n 0, 1) := by decide +kernel
theorem dX6_tripLevel_12 : decode cX6_tripLevel 12 = .ok (.getfield 36, 3) := by decide +kernel
theorem dX6_tripLevel_15 : decode cX6_tripLevel 15 = .ok (.bipush 64, 2) := by decide +kernel
theorem dX6_tripLevel_17 : decode cX6_tripLevel 17 = .ok (.iaload, 1) := by decide +kernel
theorem dX6_tripLevel_18 : decode cX6_tripLevel 18 = .ok (.ireturn, 1) := by decide +kernel
theorem dX6_tripLoad_0 : decode cX6_tripLoad 0 = .ok (.aload_n 0, 1) := by decide +kernel
theorem dX6_tripLoad_1 : decode cX6_tripLoad 1 = .ok (.invokevirtual 150, 3) := by decide +kernel
theorem dX6_tripLoad_4 : decode cX6_tripLoad 4 = .ok (.ifCond .eq 7, 3) := by decide +kernel
theorem dX6_tripLoad_7 : decode cX6_tripLoad 7 = .ok (.iconst 0, 1) := by decide +kernel
theorem dX6_tripLoad_8 : decode cX6_tripLoad 8 = .ok (.goto 10, 3) := by decide +kernel
theorem dX6_tripLoad_11 : decode cX6_tripLoad 11 = .ok (.aload_n 0, 1) := by decide +kernel
theorem dX6_tripLoad_12 : decode cX6_tripLoad 12 = .ok (.getfield 36, 3) := by decide +kernel
theorem dX6_tripLoad_15 : decode cX6_tripLoad 15 = .ok (.bipush 65, 2) := by decide +kernel
theorem dX6_tripLoad_17 : decode cX6_tripLoad 17 = .ok (.iaload, 1) := by decide +kernel
theorem dX6_tripLoad_18 : decode cX6_tripLoad 18 = .ok (.ireturn, 1) := by decide +kernel
theorem dX6_tripRest_0 : decode cX6_tripRest 0 = .ok (.aload_n 0, 1) := by decide +kernel
theorem dX6_tripRest_1 : decode cX6_tripRest 1 = .ok (.invokevirtual 150, 3) := by decide +kernel
theorem dX6_tripRest_4 : decode cX6_tripRest 4 = .ok (.ifCond .eq 7, 3) := by decide +kernel
theorem dX6_tripRest_7 : decode cX6_tripRest 7 = .ok (.iconst 0, 1) := by decide +kernel
theorem dX6_tripRest_8 : decode cX6_tripRest 8 = .ok (.goto 10, 3) := by decide +kernel
theorem dX6_tripRest_11 : decode cX6_tripRest 11 = .ok (.aload_n 0, 1) := by decide +kernel
theorem dX6_tripRest_12 : decode cX6_tripRest 12 = .ok (.getfield 36, 3) := by decide +kernel
theorem dX6_tripRest_15 : decode cX6_tripRest 15 = .ok (.bipush 66, 2) := by decide +kernel
theorem dX6_tripRest_17 : decode cX6_tripRest 17 = .ok (.iaload, 1) := by decide +kernel
theorem dX6_tripRest_18 : decode cX6_tripRest 18 = .ok (.ireturn, 1) := by decide +kernel
theorem dX6_cageLevel_0 : decode cX6_cageLevel 0 = .ok (.aload_n 0, 1) := by decide +kernel
theorem dX6_cageLevel_1 : decode cX6_cageLevel 1 = .ok (.iconst 0, 1) := by decide +kernel
theorem dX6_cageLevel_2 : decode cX6_cageLevel 2 = .ok (.putfield 48, 3) := by decide +kernel
theorem dX6_cageLevel_5 : decode cX6_cageLevel 5 = .ok (.aload_n 0, 1) := by decide +kernel
theorem dX6_cageLevel_6 : decode cX6_cageLevel 6 = .ok (.getfield 36, 3) := by decide +kernel
theorem dX6_cageLevel_9 : decode cX6_cageLevel 9 = .ok (.bipush 62, 2) := by decide +kernel
theorem dX6_cageLevel_11 : decode cX6_cageLevel 11 = .ok (.iaload, 1) := by decide +kernel
theorem dX6_cageLevel_12 : decode cX6_cageLevel 12 = .ok (.ireturn, 1) := by decide +kernel
theorem dX6_doneCount_0 : decode cX6_doneCount 0 = .ok (.aload_n 0, 1) := by decide +kernel
theorem dX6_doneCount_1 : decode cX6_doneCount 1 = .ok (.iconst 0, 1) := by decide +kernel
theorem dX6_doneCount_2 : decode cX6_doneCount 2 = .ok (.putfield 48, 3) := by decide +kernel
theorem dX6_doneCount_5 : decode cX6_doneCount 5 = .ok (.aload_n 0, 1) := by decide +kernel
theorem dX6_doneCount_6 : decode cX6_doneCount 6 = .ok (.getfield 36, 3) := by decide +kernel
theorem dX6_doneCount_9 : decode cX6_doneCount 9 = .ok (.bipush 68, 2) := by decide +kernel
theorem dX6_doneCount_11 : decode cX6_doneCount 11 = .ok (.iaload, 1) := by decide +kernel
theorem dX6_doneCount_12 : decode cX6_doneCount 12 = .ok (.ireturn, 1) := by decide +kernel
theorem dX6_droppedCount_0 : decode cX6_droppedCount 0 = .ok (.aload_n 0, 1) := by decide +kernel
theorem dX6_droppedCount_1 : decode cX6_droppedCount 1 = .ok (.iconst 0, 1) := by decide +kernel
theorem dX6_droppedCount_2 : decode cX6_droppedCount 2 = .ok (.putfield 48, 3) := by decide +kernel
theorem dX6_droppedCount_5 : decode cX6_droppedCount 5 = .ok (.aload_n 0, 1) := by decide +kernel
theorem dX6_droppedCount_6 : decode cX6_droppedCount 6 = .ok (.getfield 36, 3) := by decide +kernel
theorem dX6_droppedCount_9 : decode cX6_droppedCount 9 = .ok (.bipush 69, 2) := by decide +kernel
theorem dX6_droppedCount_11 : decode cX6_droppedCount 11 = .ok (.iaload, 1) := by decide +kernel
theorem dX6_droppedCount_12 : decode cX6_droppedCount 12 = .ok (.ireturn, 1) := by decide +kernel
theorem dX6_waitFor_0 : decode cX6_waitFor 0 = .ok (.aload_n 0, 1) := by decide +kernel
theorem dX6_waitFor_1 : decode cX6_waitFor 1 = .ok (.getfield 36, 3) := by decide +kernel
theorem dX6_waitFor_4 : decode cX6_waitFor 4 = .ok (.bipush 63, 2) := by decide +kernel
theorem dX6_waitFor_6 : decode cX6_waitFor 6 = .ok (.iaload, 1) := by decide +kernel
theorem dX6_waitFor_7 : decode cX6_waitFor 7 = .ok (.bipush 45, 2) := by decide +kernel
theorem dX6_waitFor_9 : decode cX6_waitFor 9 = .ok (.if_icmp .eq 23, 3) := by decide +kernel
theorem dX6_waitFor_12 : decode cX6_waitFor 12 = .ok (.iload_n 1, 1) := by decide +kernel
theorem dX6_waitFor_13 : decode cX6_waitFor 13 = .ok (.iconst (-1), 1) := by decide +kernel
theorem dX6_waitFor_14 : decode cX6_waitFor 14 = .ok (.if_icmp .eq 18, 3) := by decide +kernel
theorem dX6_waitFor_17 : decode cX6_waitFor 17 = .ok (.aload_n 0, 1) := by decide +kernel
theorem dX6_waitFor_18 : decode cX6_waitFor 18 = .ok (.getfield 36, 3) := by decide +kernel
theorem dX6_waitFor_21 : decode cX6_waitFor 21 = .ok (.bipush 67, 2) := by decide +kernel
theorem dX6_waitFor_23 : decode cX6_waitFor 23 = .ok (.iaload, 1) := by decide +kernel
theorem dX6_waitFor_24 : decode cX6_waitFor 24 = .ok (.iload_n 1, 1) := by decide +kernel
theorem dX6_waitFor_25 : decode cX6_waitFor 25 = .ok (.if_icmp .ne 7, 3) := by decide +kernel
theorem dX6_waitFor_28 : decode cX6_waitFor 28 = .ok (.iconst 1, 1) := by decide +kernel
theorem dX6_waitFor_29 : decode cX6_waitFor 29 = .ok (.goto 4, 3) := by decide +kernel
theorem dX6_waitFor_32 : decode cX6_waitFor 32 = .ok (.iconst 0, 1) := by decide +kernel
theorem dX6_waitFor_33 : decode cX6_waitFor 33 = .ok (.istore_n 2, 1) := by decide +kernel
theorem dX6_waitFor_34 : decode cX6_waitFor 34 = .ok (.iload_n 2, 1) := by decide +kernel
theorem dX6_waitFor_35 : decode cX6_waitFor 35 = .ok (.ifCond .ne 18, 3) := by decide +kernel
theorem dX6_waitFor_38 : decode cX6_waitFor 38 = .ok (.aload_n 0, 1) := by decide +kernel
theorem dX6_waitFor_39 : decode cX6_waitFor 39 = .ok (.iload_n 1, 1) := by decide +kernel
theorem dX6_waitFor_40 : decode cX6_waitFor 40 = .ok (.invokevirtual 109, 3) := by decide +kernel
theorem dX6_waitFor_43 : decode cX6_waitFor 43 = .ok (.iconst (-1), 1) := by decide +kernel
theorem dX6_waitFor_44 : decode cX6_waitFor 44 = .ok (.if_icmp .ne 9, 3) := by decide +kernel
theorem dX6_waitFor_47 : decode cX6_waitFor 47 = .ok (.aload_n 0, 1) := by decide +kernel
theorem dX6_waitFor_48 : decode cX6_waitFor 48 = .ok (.iconst 1, 1) := by decide +kernel
theorem dX6_waitFor_49 : decode cX6_waitFor 49 = .ok (.invokevirtual 93, 3) := by decide +kernel
theorem dX6_waitFor_52 : decode cX6_waitFor 52 = .ok (.ireturn, 1) := by decide +kernel
theorem dX6_waitFor_53 : decode cX6_waitFor 53 = .ok (.aload_n 0, 1) := by decide +kernel
theorem dX6_waitFor_54 : decode cX6_waitFor 54 = .ok (.invokevirtual 84, 3) := by decide +kernel
theorem dX6_waitFor_57 : decode cX6_waitFor 57 = .ok (.iconst 0, 1) := by decide +kernel
theorem dX6_waitFor_58 : decode cX6_waitFor 58 = .ok (.istore_n 3, 1) := by decide +kernel
theorem dX6_waitFor_59 : decode cX6_waitFor 59 = .ok (.iconst 0, 1) := by decide +kernel
theorem dX6_waitFor_60 : decode cX6_waitFor 60 = .ok (.istore 4, 2) := by decide +kernel
theorem dX6_waitFor_62 : decode cX6_waitFor 62 = .ok (.iconst 1, 1) := by decide +kernel
theorem dX6_waitFor_63 : decode cX6_waitFor 63 = .ok (.istore 5, 2) := by decide +kernel
theorem dX6_waitFor_65 : decode cX6_waitFor 65 = .ok (.iload 5, 2) := by decide +kernel
theorem dX6_waitFor_67 : decode cX6_waitFor 67 = .ok (.ifCond .eq 93, 3) := by decide +kernel
theorem dX6_waitFor_70 : decode cX6_waitFor 70 = .ok (.iload_n 3, 1) := by decide +kernel
theorem dX6_waitFor_71 : decode cX6_waitFor 71 = .ok (.sipush 500, 3) := by decide +kernel
theorem dX6_waitFor_74 : decode cX6_waitFor 74 = .ok (.if_icmp .ge 86, 3) := by decide +kernel
theorem dX6_waitFor_77 : decode cX6_waitFor 77 = .ok (.aload_n 0, 1) := by decide +kernel
theorem dX6_waitFor_78 : decode cX6_waitFor 78 = .ok (.getfield 36, 3) := by decide +kernel
theorem dX6_waitFor_81 : decode cX6_waitFor 81 = .ok (.bipush 67, 2) := by decide +kernel
theorem dX6_waitFor_83 : decode cX6_waitFor 83 = .ok (.iaload, 1) := by decide +kernel
theorem dX6_waitFor_84 : decode cX6_waitFor 84 = .ok (.iload_n 1, 1) := by decide +kernel
theorem dX6_waitFor_85 : decode cX6_waitFor 85 = .ok (.if_icmp .ne 7, 3) := by decide +kernel
theorem dX6_waitFor_88 : decode cX6_waitFor 88 = .ok (.iconst 1, 1) := by decide +kernel
theorem dX6_waitFor_89 : decode cX6_waitFor 89 = .ok (.goto 4, 3) := by decide +kernel
theorem dX6_waitFor_92 : decode cX6_waitFor 92 = .ok (.iconst 0, 1) := by decide +kernel
theorem dX6_waitFor_93 : decode cX6_waitFor 93 = .ok (.istore 6, 2) := by decide +kernel
theorem dX6_waitFor_95 : decode cX6_waitFor 95 = .ok (.aload_n 0, 1) := by decide +kernel
theorem dX6_waitFor_96 : decode cX6_waitFor 96 = .ok (.invokevirtual 147, 3) := by decide +kernel
theorem dX6_waitFor_99 : decode cX6_waitFor 99 = .ok (.iinc 3 1, 3) := by decide +kernel
theorem dX6_waitFor_102 : decode cX6_waitFor 102 = .ok (.aload_n 0, 1) := by decide +kernel
theorem dX6_waitFor_103 : decode cX6_waitFor 103 = .ok (.getfield 36, 3) := by decide +kernel
theorem dX6_waitFor_106 : decode cX6_waitFor 106 = .ok (.bipush 67, 2) := by decide +kernel
theorem dX6_waitFor_108 : decode cX6_waitFor 108 = .ok (.iaload, 1) := by decide +kernel
theorem dX6_waitFor_109 : decode cX6_waitFor 109 = .ok (.iload_n 1, 1) := by decide +kernel
theorem dX6_waitFor_110 : decode cX6_waitFor 110 = .ok (.if_icmp .eq 12, 3) := by decide +kernel
theorem dX6_waitFor_113 : decode cX6_waitFor 113 = .ok (.aload_n 0, 1) := by decide +kernel
theorem dX6_waitFor_114 : decode cX6_waitFor 114 = .ok (.iload_n 1, 1) := by decide +kernel
theorem dX6_waitFor_115 : decode cX6_waitFor 115 = .ok (.invokevirtual 109, 3) := by decide +kernel
theorem dX6_waitFor_118 : decode cX6_waitFor 118 = .ok (.iconst (-1), 1) := by decide +kernel
theorem dX6_waitFor_119 : decode cX6_waitFor 119 = .ok (.if_icmp .eq 7, 3) := by decide +kernel
theorem dX6_waitFor_122 : decode cX6_waitFor 122 = .ok (.iconst 1, 1) := by decide +kernel
theorem dX6_waitFor_123 : decode cX6_waitFor 123 = .ok (.goto 4, 3) := by decide +kernel
theorem dX6_waitFor_126 : decode cX6_waitFor 126 = .ok (.iconst 0, 1) := by decide +kernel
theorem dX6_waitFor_127 : decode cX6_waitFor 127 = .ok (.istore 5, 2) := by decide +kernel
theorem dX6_waitFor_129 : decode cX6_waitFor 129 = .ok (.iload 5, 2) := by decide +kernel
theorem dX6_waitFor_131 : decode cX6_waitFor 131 = .ok (.ifCond .ne 23, 3) := by decide +kernel
theorem dX6_waitFor_134 : decode cX6_waitFor 134 = .ok (.iload 6, 2) := by decide +kernel
theorem dX6_waitFor_136 : decode cX6_waitFor 136 = .ok (.ifCond .ne 14, 3) := by decide +kernel
theorem dX6_waitFor_139 : decode cX6_waitFor 139 = .ok (.aload_n 0, 1) := by decide +kernel
theorem dX6_waitFor_140 : decode cX6_waitFor 140 = .ok (.getfield 36, 3) := by decide +kernel
theorem dX6_waitFor_143 : decode cX6_waitFor 143 = .ok (.bipush 72, 2) := by decide +kernel
theorem dX6_waitFor_145 : decode cX6_waitFor 145 = .ok (.iaload, 1) := by decide +kernel
theorem dX6_waitFor_146 : decode cX6_waitFor 146 = .ok (.iload_n 1, 1) := by decide +kernel
theorem dX6_waitFor_147 : decode cX6_waitFor 147 = .ok (.if_icmp .ne 7, 3) := by decide +kernel
theorem dX6_waitFor_150 : decode cX6_waitFor 150 = .ok (.iconst 1, 1) := by decide +kernel
theorem dX6_waitFor_151 : decode cX6_waitFor 151 = .ok (.goto 4, 3) := by decide +kernel
theorem dX6_waitFor_154 : decode cX6_waitFor 154 = .ok (.iconst 0, 1) := by decide +kernel
theorem dX6_waitFor_155 : decode cX6_waitFor 155 = .ok (.istore 4, 2) := by decide +kernel
theorem dX6_waitFor_157 : decode cX6_waitFor 157 = .ok (.goto (-92), 3) := by decide +kernel
theorem dX6_waitFor_160 : decode cX6_waitFor 160 = .ok (.aload_n 0, 1) := by decide +kernel
theorem dX6_waitFor_161 : decode cX6_waitFor 161 = .ok (.invokevirtual 90, 3) := by decide +kernel
theorem dX6_waitFor_164 : decode cX6_waitFor 164 = .ok (.aload_n 0, 1) := by decide +kernel
theorem dX6_waitFor_165 : decode cX6_waitFor 165 = .ok (.iload 4, 2) := by decide +kernel
theorem dX6_waitFor_167 : decode cX6_waitFor 167 = .ok (.ifCond .eq 7, 3) := by decide +kernel
theorem dX6_waitFor_170 : decode cX6_waitFor 170 = .ok (.iconst 0, 1) := by decide +kernel
theorem dX6_waitFor_171 : decode cX6_waitFor 171 = .ok (.goto 4, 3) := by decide +kernel
theorem dX6_waitFor_174 : decode cX6_waitFor 174 = .ok (.iconst 2, 1) := by decide +kernel
theorem dX6_waitFor_175 : decode cX6_waitFor 175 = .ok (.putfield 48, 3) := by decide +kernel
theorem dX6_waitFor_178 : decode cX6_waitFor 178 = .ok (.iload 4, 2) := by decide +kernel
theorem dX6_waitFor_180 : decode cX6_waitFor 180 = .ok (.ifCond .eq 7, 3) := by decide +kernel
theorem dX6_waitFor_183 : decode cX6_waitFor 183 = .ok (.iload_n 3, 1) := by decide +kernel
theorem dX6_waitFor_184 : decode cX6_waitFor 184 = .ok (.goto 4, 3) := by decide +kernel
theorem dX6_waitFor_187 : decode cX6_waitFor 187 = .ok (.iconst 0, 1) := by decide +kernel
theorem dX6_waitFor_188 : decode cX6_waitFor 188 = .ok (.ireturn, 1) := by decide +kernel
theorem dX6_isConsistent_0 : decode cX6_isConsistent 0 = .ok (.aload_n 0, 1) := by decide +kernel
theorem dX6_isConsistent_1 : decode cX6_isConsistent 1 = .ok (.iconst 0, 1) := by decide +kernel
theorem dX6_isConsistent_2 : decode cX6_isConsistent 2 = .ok (.putfield 48, 3) := by decide +kernel
theorem dX6_isConsistent_5 : decode cX6_isConsistent 5 = .ok (.iconst 1, 1) := by decide +kernel
theorem dX6_isConsistent_6 : decode cX6_isConsistent 6 = .ok (.ireturn, 1) := by decide +kernel
theorem dL_addLevel_0 : decode cL_addLevel 0 = .ok (.aload 5, 2) := by decide +kernel
theorem dL_addLevel_2 : decode cL_addLevel 2 = .ok (.iconst 0, 1) := by decide +kernel
theorem dL_addLevel_3 : decode cL_addLevel 3 = .ok (.aload_n 0, 1) := by decide +kernel
theorem dL_addLevel_4 : decode cL_addLevel 4 = .ok (.iload_n 1, 1) := by decide +kernel
theorem dL_addLevel_5 : decode cL_addLevel 5 = .ok (.iload_n 2, 1) := by decide +kernel
theorem dL_addLevel_6 : decode cL_addLevel 6 = .ok (.iload_n 3, 1) := by decide +kernel
theorem dL_addLevel_7 : decode cL_addLevel 7 = .ok (.iload 4, 2) := by decide +kernel
theorem dL_addLevel_9 : decode cL_addLevel 9 = .ok (.invokevirtual 7, 3) := by decide +kernel
theorem dL_addLevel_12 : decode cL_addLevel 12 = .ok (.i2l, 1) := by decide +kernel
theorem dL_addLevel_13 : decode cL_addLevel 13 = .ok (.lastore, 1) := by decide +kernel
theorem dL_addLevel_14 : decode cL_addLevel 14 = .ok (.goto 11, 3) := by decide +kernel
theorem dL_addLevel_17 : decode cL_addLevel 17 = .ok (.astore 6, 2) := by decide +kernel
theorem dL_addLevel_19 : decode cL_addLevel 19 = .ok (.iconst 1, 1) := by decide +kernel
theorem dL_addLevel_20 : decode cL_addLevel 20 = .ok (.ireturn, 1) := by decide +kernel
theorem dL_addLevel_21 : decode cL_addLevel 21 = .ok (.astore 6, 2) := by decide +kernel
theorem dL_addLevel_23 : decode cL_addLevel 23 = .ok (.iconst 2, 1) := by decide +kernel
theorem dL_addLevel_24 : decode cL_addLevel 24 = .ok (.ireturn, 1) := by decide +kernel
theorem dL_addLevel_25 : decode cL_addLevel 25 = .ok (.iconst 0, 1) := by decide +kernel
theorem dL_addLevel_26 : decode cL_addLevel 26 = .ok (.ireturn, 1) := by decide +kernel
theorem dL_depthOf_0 : decode cL_depthOf 0 = .ok (.aload_n 2, 1) := by decide +kernel
theorem dL_depthOf_1 : decode cL_depthOf 1 = .ok (.iconst 0, 1) := by decide +kernel
theorem dL_depthOf_2 : decode cL_depthOf 2 = .ok (.aload_n 0, 1) := by decide +kernel
theorem dL_depthOf_3 : decode cL_depthOf 3 = .ok (.iload_n 1, 1) := by decide +kernel
theorem dL_depthOf_4 : decode cL_depthOf 4 = .ok (.invokevirtual 17, 3) := by decide +kernel
theorem dL_depthOf_7 : decode cL_depthOf 7 = .ok (.i2l, 1) := by decide +kernel
theorem dL_depthOf_8 : decode cL_depthOf 8 = .ok (.lastore, 1) := by decide +kernel
theorem dL_depthOf_9 : decode cL_depthOf 9 = .ok (.goto 6, 3) := by decide +kernel
theorem dL_depthOf_12 : decode cL_depthOf 12 = .ok (.astore_n 3, 1) := by decide +kernel
theorem dL_depthOf_13 : decode cL_depthOf 13 = .ok (.iconst 1, 1) := by decide +kernel
theorem dL_depthOf_14 : decode cL_depthOf 14 = .ok (.ireturn, 1) := by decide +kernel
theorem dL_depthOf_15 : decode cL_depthOf 15 = .ok (.iconst 0, 1) := by decide +kernel
theorem dL_depthOf_16 : decode cL_depthOf 16 = .ok (.ireturn, 1) := by decide +kernel
theorem dL_setFan_0 : decode cL_setFan 0 = .ok (.aload_n 2, 1) := by decide +kernel
theorem dL_setFan_1 : decode cL_setFan 1 = .ok (.iconst 0, 1) := by decide +kernel
theorem dL_setFan_2 : decode cL_setFan 2 = .ok (.aload_n 0, 1) := by decide +kernel
theorem dL_setFan_3 : decode cL_setFan 3 = .ok (.iload_n 1, 1) := by decide +kernel
theorem dL_setFan_4 : decode cL_setFan 4 = .ok (.invokevirtual 23, 3) := by decide +kernel
theorem dL_setFan_7 : decode cL_setFan 7 = .ok (.i2l, 1) := by decide +kernel
theorem dL_setFan_8 : decode cL_setFan 8 = .ok (.lastore, 1) := by decide +kernel
theorem dL_setFan_9 : decode cL_setFan 9 = .ok (.goto 6, 3) := by decide +kernel
theorem dL_setFan_12 : decode cL_setFan 12 = .ok (.astore_n 3, 1) := by decide +kernel
theorem dL_setFan_13 : decode cL_setFan 13 = .ok (.iconst 1, 1) := by decide +kernel
theorem dL_setFan_14 : decode cL_setFan 14 = .ok (.ireturn, 1) := by decide +kernel
theorem dL_setFan_15 : decode cL_setFan 15 = .ok (.iconst 0, 1) := by decide +kernel
theorem dL_setFan_16 : decode cL_setFan 16 = .ok (.ireturn, 1) := by decide +kernel
theorem dL_setDoor_0 : decode cL_setDoor 0 = .ok (.aload_n 3, 1) := by decide +kernel
theorem dL_setDoor_1 : decode cL_setDoor 1 = .ok (.iconst 0, 1) := by decide +kernel
theorem dL_setDoor_2 : decode cL_setDoor 2 = .ok (.aload_n 0, 1) := by decide +kernel
theorem dL_setDoor_3 : decode cL_setDoor 3 = .ok (.iload_n 1, 1) := by decide +kernel
theorem dL_setDoor_4 : decode cL_setDoor 4 = .ok (.iload_n 2, 1) := by decide +kernel
theorem dL_setDoor_5 : decode cL_setDoor 5 = .ok (.invokevirtual 26, 3) := by decide +kernel
theorem dL_setDoor_8 : decode cL_setDoor 8 = .ok (.ifCond .eq 7, 3) := by decide +kernel
theorem dL_setDoor_11 : decode cL_setDoor 11 = .ok (.lconst 1, 1) := by decide +kernel
theorem dL_setDoor_12 : decode cL_setDoor 12 = .ok (.goto 4, 3) := by decide +kernel
theorem dL_setDoor_15 : decode cL_setDoor 15 = .ok (.lconst 0, 1) := by decide +kernel
theorem dL_setDoor_16 : decode cL_setDoor 16 = .ok (.lastore, 1) := by decide +kernel
theorem dL_setDoor_17 : decode cL_setDoor 17 = .ok (.goto 7, 3) := by decide +kernel
theorem dL_setDoor_20 : decode cL_setDoor 20 = .ok (.astore 4, 2) := by decide +kernel
theorem dL_setDoor_22 : decode cL_setDoor 22 = .ok (.iconst 1, 1) := by decide +kernel
theorem dL_setDoor_23 : decode cL_setDoor 23 = .ok (.ireturn, 1) := by decide +kernel
theorem dL_setDoor_24 : decode cL_setDoor 24 = .ok (.iconst 0, 1) := by decide +kernel
theorem dL_setDoor_25 : decode cL_setDoor 25 = .ok (.ireturn, 1) := by decide +kernel
theorem dL_airOf_0 : decode cL_airOf 0 = .ok (.aload_n 2, 1) := by decide +kernel
theorem dL_airOf_1 : decode cL_airOf 1 = .ok (.iconst 0, 1) := by decide +kernel
theorem dL_airOf_2 : decode cL_airOf 2 = .ok (.aload_n 0, 1) := by decide +kernel
theorem dL_airOf_3 : decode cL_airOf 3 = .ok (.iload_n 1, 1) := by decide +kernel
theorem dL_airOf_4 : decode cL_airOf 4 = .ok (.invokevirtual 30, 3) := by decide +kernel
theorem dL_airOf_7 : decode cL_airOf 7 = .ok (.i2l, 1) := by decide +kernel
theorem dL_airOf_8 : decode cL_airOf 8 = .ok (.lastore, 1) := by decide +kernel
theorem dL_airOf_9 : decode cL_airOf 9 = .ok (.goto 6, 3) := by decide +kernel
theorem dL_airOf_12 : decode cL_airOf 12 = .ok (.astore_n 3, 1) := by decide +kernel
theorem dL_airOf_13 : decode cL_airOf 13 = .ok (.iconst 1, 1) := by decide +kernel
theorem dL_airOf_14 : decode cL_airOf 14 = .ok (.ireturn, 1) := by decide +kernel
theorem dL_airOf_15 : decode cL_airOf 15 = .ok (.iconst 0, 1) := by decide +kernel
theorem dL_airOf_16 : decode cL_airOf 16 = .ok (.ireturn, 1) := by decide +kernel
theorem dL_airByPaths_0 : decode cL_airByPaths 0 = .ok (.aload_n 2, 1) := by decide +kernel
theorem dL_airByPaths_1 : decode cL_airByPaths 1 = .ok (.iconst 0, 1) := by decide +kernel
theorem dL_airByPaths_2 : decode cL_airByPaths 2 = .ok (.aload_n 0, 1) := by decide +kernel
theorem dL_airByPaths_3 : decode cL_airByPaths 3 = .ok (.iload_n 1, 1) := by decide +kernel
theorem dL_airByPaths_4 : decode cL_airByPaths 4 = .ok (.invokevirtual 33, 3) := by decide +kernel
theorem dL_airByPaths_7 : decode cL_airByPaths 7 = .ok (.i2l, 1) := by decide +kernel
theorem dL_airByPaths_8 : decode cL_airByPaths 8 = .ok (.lastore, 1) := by decide +kernel
theorem dL_airByPaths_9 : decode cL_airByPaths 9 = .ok (.goto 6, 3) := by decide +kernel
theorem dL_airByPaths_12 : decode cL_airByPaths 12 = .ok (.astore_n 3, 1) := by decide +kernel
theorem dL_airByPaths_13 : decode cL_airByPaths 13 = .ok (.iconst 1, 1) := by decide +kernel
theorem dL_airByPaths_14 : decode cL_airByPaths 14 = .ok (.ireturn, 1) := by decide +kernel
theorem dL_airByPaths_15 : decode cL_airByPaths 15 = .ok (.iconst 0, 1) := by decide +kernel
theorem dL_airByPaths_16 : decode cL_airByPaths 16 = .ok (.ireturn, 1) := by decide +kernel
theorem dL_setLimit_0 : decode cL_setLimit 0 = .ok (.aload_n 2, 1) := by decide +kernel
theorem dL_setLimit_1 : decode cL_setLimit 1 = .ok (.iconst 0, 1) := by decide +kernel
theorem dL_setLimit_2 : decode cL_setLimit 2 = .ok (.aload_n 0, 1) := by decide +kernel
theorem dL_setLimit_3 : decode cL_setLimit 3 = .ok (.iload_n 1, 1) := by decide +kernel
theorem dL_setLimit_4 : decode cL_setLimit 4 = .ok (.invokevirtual 36, 3) := by decide +kernel
theorem dL_setLimit_7 : decode cL_setLimit 7 = .ok (.i2l, 1) := by decide +kernel
theorem dL_setLimit_8 : decode cL_setLimit 8 = .ok (.lastore, 1) := by decide +kernel
theorem dL_setLimit_9 : decode cL_setLimit 9 = .ok (.goto 6, 3) := by decide +kernel
theorem dL_setLimit_12 : decode cL_setLimit 12 = .ok (.astore_n 3, 1) := by decide +kernel
theorem dL_setLimit_13 : decode cL_setLimit 13 = .ok (.iconst 1, 1) := by decide +kernel
theorem dL_setLimit_14 : decode cL_setLimit 14 = .ok (.ireturn, 1) := by decide +kernel
theorem dL_setLimit_15 : decode cL_setLimit 15 = .ok (.iconst 0, 1) := by decide +kernel
theorem dL_setLimit_16 : decode cL_setLimit 16 = .ok (.ireturn, 1) := by decide +kernel
theorem dL_gasOf_0 : decode cL_gasOf 0 = .ok (.aload_n 2, 1) := by decide +kernel
theorem dL_gasOf_1 : decode cL_gasOf 1 = .ok (.iconst 0, 1) := by decide +kernel
theorem dL_gasOf_2 : decode cL_gasOf 2 = .ok (.aload_n 0, 1) := by decide +kernel
theorem dL_gasOf_3 : decode cL_gasOf 3 = .ok (.iload_n 1, 1) := by decide +kernel
theorem dL_gasOf_4 : decode cL_gasOf 4 = .ok (.invokevirtual 39, 3) := by decide +kernel
theorem dL_gasOf_7 : decode cL_gasOf 7 = .ok (.i2l, 1) := by decide +kernel
theorem dL_gasOf_8 : decode cL_gasOf 8 = .ok (.lastore, 1) := by decide +kernel
theorem dL_gasOf_9 : decode cL_gasOf 9 = .ok (.goto 6, 3) := by decide +kernel
theorem dL_gasOf_12 : decode cL_gasOf 12 = .ok (.astore_n 3, 1) := by decide +kernel
theorem dL_gasOf_13 : decode cL_gasOf 13 = .ok (.iconst 1, 1) := by decide +kernel
theorem dL_gasOf_14 : decode cL_gasOf 14 = .ok (.ireturn, 1) := by decide +kernel
theorem dL_gasOf_15 : decode cL_gasOf 15 = .ok (.iconst 0, 1) := by decide +kernel
theorem dL_gasOf_16 : decode cL_gasOf 16 = .ok (.ireturn, 1) := by decide +kernel
theorem dL_gasShare_0 : decode cL_gasShare 0 = .ok (.aload_n 2, 1) := by decide +kernel
theorem dL_gasShare_1 : decode cL_gasShare 1 = .ok (.iconst 0, 1) := by decide +kernel
theorem dL_gasShare_2 : decode cL_gasShare 2 = .ok (.aload_n 0, 1) := by decide +kernel
theorem dL_gasShare_3 : decode cL_gasShare 3 = .ok (.iload_n 1, 1) := by decide +kernel
theorem dL_gasShare_4 : decode cL_gasShare 4 = .ok (.invokevirtual 42, 3) := by decide +kernel
theorem dL_gasShare_7 : decode cL_gasShare 7 = .ok (.i2l, 1) := by decide +kernel
theorem dL_gasShare_8 : decode cL_gasShare 8 = .ok (.lastore, 1) := by decide +kernel
theorem dL_gasShare_9 : decode cL_gasShare 9 = .ok (.goto 6, 3) := by decide +kernel
theorem dL_gasShare_12 : decode cL_gasShare 12 = .ok (.astore_n 3, 1) := by decide +kernel
theorem dL_gasShare_13 : decode cL_gasShare 13 = .ok (.iconst 1, 1) := by decide +kernel
theorem dL_gasShare_14 : decode cL_gasShare 14 = .ok (.ireturn, 1) := by decide +kernel
theorem dL_gasShare_15 : decode cL_gasShare 15 = .ok (.iconst 0, 1) := by decide +kernel
theorem dL_gasShare_16 : decode cL_gasShare 16 = .ok (.ireturn, 1) := by decide +kernel
theorem dL_isAlarm_0 : decode cL_isAlarm 0 = .ok (.aload_n 2, 1) := by decide +kernel
theorem dL_isAlarm_1 : decode cL_isAlarm 1 = .ok (.iconst 0, 1) := by decide +kernel
theorem dL_isAlarm_2 : decode cL_isAlarm 2 = .ok (.aload_n 0, 1) := by decide +kernel
theorem dL_isAlarm_3 : decode cL_isAlarm 3 = .ok (.iload_n 1, 1) := by decide +kernel
theorem dL_isAlarm_4 : decode cL_isAlarm 4 = .ok (.invokevirtual 45, 3) := by decide +kernel
theorem dL_isAlarm_7 : decode cL_isAlarm 7 = .ok (.ifCond .eq 7, 3) := by decide +kernel
theorem dL_isAlarm_10 : decode cL_isAlarm 10 = .ok (.lconst 1, 1) := by decide +kernel
theorem dL_isAlarm_11 : decode cL_isAlarm 11 = .ok (.goto 4, 3) := by decide +kernel
theorem dL_isAlarm_14 : decode cL_isAlarm 14 = .ok (.lconst 0, 1) := by decide +kernel
theorem dL_isAlarm_15 : decode cL_isAlarm 15 = .ok (.lastore, 1) := by decide +kernel
theorem dL_isAlarm_16 : decode cL_isAlarm 16 = .ok (.goto 6, 3) := by decide +kernel
theorem dL_isAlarm_19 : decode cL_isAlarm 19 = .ok (.astore_n 3, 1) := by decide +kernel
theorem dL_isAlarm_20 : decode cL_isAlarm 20 = .ok (.iconst 1, 1) := by decide +kernel
theorem dL_isAlarm_21 : decode cL_isAlarm 21 = .ok (.ireturn, 1) := by decide +kernel
theorem dL_isAlarm_22 : decode cL_isAlarm 22 = .ok (.iconst 0, 1) := by decide +kernel
theorem dL_isAlarm_23 : decode cL_isAlarm 23 = .ok (.ireturn, 1) := by decide +kernel
theorem dL_meanShare_0 : decode cL_meanShare 0 = .ok (.aload_n 1, 1) := by decide +kernel
theorem dL_meanShare_1 : decode cL_meanShare 1 = .ok (.iconst 0, 1) := by decide +kernel
theorem dL_meanShare_2 : decode cL_meanShare 2 = .ok (.aload_n 0, 1) := by decide +kernel
theorem dL_meanShare_3 : decode cL_meanShare 3 = .ok (.invokevirtual 49, 3) := by decide +kernel
theorem dL_meanShare_6 : decode cL_meanShare 6 = .ok (.dastore, 1) := by decide +kernel
theorem dL_meanShare_7 : decode cL_meanShare 7 = .ok (.goto 6, 3) := by decide +kernel
theorem dL_meanShare_10 : decode cL_meanShare 10 = .ok (.astore_n 2, 1) := by decide +kernel
theorem dL_meanShare_11 : decode cL_meanShare 11 = .ok (.iconst 1, 1) := by decide +kernel
theorem dL_meanShare_12 : decode cL_meanShare 12 = .ok (.ireturn, 1) := by decide +kernel
theorem dL_meanShare_13 : decode cL_meanShare 13 = .ok (.iconst 0, 1) := by decide +kernel
theorem dL_meanShare_14 : decode cL_meanShare 14 = .ok (.ireturn, 1) := by decide +kernel
theorem dL_minutesToAlarm_0 : decode cL_minutesToAlarm 0 = .ok (.aload_n 2, 1) := by decide +kernel
theorem dL_minutesToAlarm_1 : decode cL_minutesToAlarm 1 = .ok (.iconst 0, 1) := by decide +kernel
theorem dL_minutesToAlarm_2 : decode cL_minutesToAlarm 2 = .ok (.aload_n 0, 1) := by decide +kernel
theorem dL_minutesToAlarm_3 : decode cL_minutesToAlarm 3 = .ok (.iload_n 1, 1) := by decide +kernel
theorem dL_minutesToAlarm_4 : decode cL_minutesToAlarm 4 = .ok (.invokevirtual 55, 3) := by decide +kernel
theorem dL_minutesToAlarm_7 : decode cL_minutesToAlarm 7 = .ok (.i2l, 1) := by decide +kernel
theorem dL_minutesToAlarm_8 : decode cL_minutesToAlarm 8 = .ok (.lastore, 1) := by decide +kernel
theorem dL_minutesToAlarm_9 : decode cL_minutesToAlarm 9 = .ok (.goto 9, 3) := by decide +kernel
theorem dL_minutesToAlarm_12 : decode cL_minutesToAlarm 12 = .ok (.astore_n 3, 1) := by decide +kernel
theorem dL_minutesToAlarm_13 : decode cL_minutesToAlarm 13 = .ok (.iconst 1, 1) := by decide +kernel
theorem dL_minutesToAlarm_14 : decode cL_minutesToAlarm 14 = .ok (.ireturn, 1) := by decide +kernel
theorem dL_minutesToAlarm_15 : decode cL_minutesToAlarm 15 = .ok (.astore_n 3, 1) := by decide +kernel
theorem dL_minutesToAlarm_16 : decode cL_minutesToAlarm 16 = .ok (.iconst 2, 1) := by decide +kernel
theorem dL_minutesToAlarm_17 : decode cL_minutesToAlarm 17 = .ok (.ireturn, 1) := by decide +kernel
theorem dL_minutesToAlarm_18 : decode cL_minutesToAlarm 18 = .ok (.iconst 0, 1) := by decide +kernel
theorem dL_minutesToAlarm_19 : decode cL_minutesToAlarm 19 = .ok (.ireturn, 1) := by decide +kernel
theorem dL_hire_0 : decode cL_hire 0 = .ok (.aload_n 2, 1) := by decide +kernel
theorem dL_hire_1 : decode cL_hire 1 = .ok (.iconst 0, 1) := by decide +kernel
theorem dL_hire_2 : decode cL_hire 2 = .ok (.aload_n 0, 1) := by decide +kernel
theorem dL_hire_3 : decode cL_hire 3 = .ok (.iload_n 1, 1) := by decide +kernel
theorem dL_hire_4 : decode cL_hire 4 = .ok (.invokevirtual 60, 3) := by decide +kernel
theorem dL_hire_7 : decode cL_hire 7 = .ok (.i2l, 1) := by decide +kernel
theorem dL_hire_8 : decode cL_hire 8 = .ok (.lastore, 1) := by decide +kernel
theorem dL_hire_9 : decode cL_hire 9 = .ok (.goto 9, 3) := by decide +kernel
theorem dL_hire_12 : decode cL_hire 12 = .ok (.astore_n 3, 1) := by decide +kernel
theorem dL_hire_13 : decode cL_hire 13 = .ok (.iconst 1, 1) := by decide +kernel
theorem dL_hire_14 : decode cL_hire 14 = .ok (.ireturn, 1) := by decide +kernel
theorem dL_hire_15 : decode cL_hire 15 = .ok (.astore_n 3, 1) := by decide +kernel
theorem dL_hire_16 : decode cL_hire 16 = .ok (.iconst 2, 1) := by decide +kernel
theorem dL_hire_17 : decode cL_hire 17 = .ok (.ireturn, 1) := by decide +kernel
theorem dL_hire_18 : decode cL_hire 18 = .ok (.iconst 0, 1) := by decide +kernel
theorem dL_hire_19 : decode cL_hire 19 = .ok (.ireturn, 1) := by decide +kernel
theorem dL_peopleAt_0 : decode cL_peopleAt 0 = .ok (.aload_n 2, 1) := by decide +kernel
theorem dL_peopleAt_1 : decode cL_peopleAt 1 = .ok (.iconst 0, 1) := by decide +kernel
theorem dL_peopleAt_2 : decode cL_peopleAt 2 = .ok (.aload_n 0, 1) := by decide +kernel
theorem dL_peopleAt_3 : decode cL_peopleAt 3 = .ok (.iload_n 1, 1) := by decide +kernel
theorem dL_peopleAt_4 : decode cL_peopleAt 4 = .ok (.invokevirtual 63, 3) := by decide +kernel
theorem dL_peopleAt_7 : decode cL_peopleAt 7 = .ok (.i2l, 1) := by decide +kernel
theorem dL_peopleAt_8 : decode cL_peopleAt 8 = .ok (.lastore, 1) := by decide +kernel
theorem dL_peopleAt_9 : decode cL_peopleAt 9 = .ok (.goto 6, 3) := by decide +kernel
theorem dL_peopleAt_12 : decode cL_peopleAt 12 = .ok (.astore_n 3, 1) := by decide +kernel
theorem dL_peopleAt_13 : decode cL_peopleAt 13 = .ok (.iconst 1, 1) := by decide +kernel
theorem dL_peopleAt_14 : decode cL_peopleAt 14 = .ok (.ireturn, 1) := by decide +kernel
theorem dL_peopleAt_15 : decode cL_peopleAt 15 = .ok (.iconst 0, 1) := by decide +kernel
theorem dL_peopleAt_16 : decode cL_peopleAt 16 = .ok (.ireturn, 1) := by decide +kernel
theorem dL_oreAt_0 : decode cL_oreAt 0 = .ok (.aload_n 2, 1) := by decide +kernel
theorem dL_oreAt_1 : decode cL_oreAt 1 = .ok (.iconst 0, 1) := by decide +kernel
theorem dL_oreAt_2 : decode cL_oreAt 2 = .ok (.aload_n 0, 1) := by decide +kernel
theorem dL_oreAt_3 : decode cL_oreAt 3 = .ok (.iload_n 1, 1) := by decide +kernel
theorem dL_oreAt_4 : decode cL_oreAt 4 = .ok (.invokevirtual 66, 3) := by decide +kernel
theorem dL_oreAt_7 : decode cL_oreAt 7 = .ok (.i2l, 1) := by decide +kernel
theorem dL_oreAt_8 : decode cL_oreAt 8 = .ok (.lastore, 1) := by decide +kernel
theorem dL_oreAt_9 : decode cL_oreAt 9 = .ok (.goto 6, 3) := by decide +kernel
theorem dL_oreAt_12 : decode cL_oreAt 12 = .ok (.astore_n 3, 1) := by decide +kernel
theorem dL_oreAt_13 : decode cL_oreAt 13 = .ok (.iconst 1, 1) := by decide +kernel
theorem dL_oreAt_14 : decode cL_oreAt 14 = .ok (.ireturn, 1) := by decide +kernel
theorem dL_oreAt_15 : decode cL_oreAt 15 = .ok (.iconst 0, 1) := by decide +kernel
theorem dL_oreAt_16 : decode cL_oreAt 16 = .ok (.ireturn, 1) := by decide +kernel
theorem dL_blast_0 : decode cL_blast 0 = .ok (.aload_n 3, 1) := by decide +kernel
theorem dL_blast_1 : decode cL_blast 1 = .ok (.iconst 0, 1) := by decide +kernel
theorem dL_blast_2 : decode cL_blast 2 = .ok (.aload_n 0, 1) := by decide +kernel
theorem dL_blast_3 : decode cL_blast 3 = .ok (.iload_n 1, 1) := by decide +kernel
theorem dL_blast_4 : decode cL_blast 4 = .ok (.iload_n 2, 1) := by decide +kernel
theorem dL_blast_5 : decode cL_blast 5 = .ok (.invokevirtual 69, 3) := by decide +kernel
theorem dL_blast_8 : decode cL_blast 8 = .ok (.i2l, 1) := by decide +kernel
theorem dL_blast_9 : decode cL_blast 9 = .ok (.lastore, 1) := by decide +kernel
theorem dL_blast_10 : decode cL_blast 10 = .ok (.goto 19, 3) := by decide +kernel
theorem dL_blast_13 : decode cL_blast 13 = .ok (.astore 4, 2) := by decide +kernel
theorem dL_blast_15 : decode cL_blast 15 = .ok (.iconst 1, 1) := by decide +kernel
theorem dL_blast_16 : decode cL_blast 16 = .ok (.ireturn, 1) := by decide +kernel
theorem dL_blast_17 : decode cL_blast 17 = .ok (.astore 4, 2) := by decide +kernel
theorem dL_blast_19 : decode cL_blast 19 = .ok (.iconst 2, 1) := by decide +kernel
theorem dL_blast_20 : decode cL_blast 20 = .ok (.ireturn, 1) := by decide +kernel
theorem dL_blast_21 : decode cL_blast 21 = .ok (.astore 4, 2) := by decide +kernel
theorem dL_blast_23 : decode cL_blast 23 = .ok (.iconst 3, 1) := by decide +kernel
theorem dL_blast_24 : decode cL_blast 24 = .ok (.ireturn, 1) := by decide +kernel
theorem dL_blast_25 : decode cL_blast 25 = .ok (.astore 4, 2) := by decide +kernel
theorem dL_blast_27 : decode cL_blast 27 = .ok (.iconst 4, 1) := by decide +kernel
theorem dL_blast_28 : decode cL_blast 28 = .ok (.ireturn, 1) := by decide +kernel
theorem dL_blast_29 : decode cL_blast 29 = .ok (.iconst 0, 1) := by decide +kernel
theorem dL_blast_30 : decode cL_blast 30 = .ok (.ireturn, 1) := by decide +kernel
theorem dL_isClosed_0 : decode cL_isClosed 0 = .ok (.aload_n 2, 1) := by decide +kernel
theorem dL_isClosed_1 : decode cL_isClosed 1 = .ok (.iconst 0, 1) := by decide +kernel
theorem dL_isClosed_2 : decode cL_isClosed 2 = .ok (.aload_n 0, 1) := by decide +kernel
theorem dL_isClosed_3 : decode cL_isClosed 3 = .ok (.iload_n 1, 1) := by decide +kernel
theorem dL_isClosed_4 : decode cL_isClosed 4 = .ok (.invokevirtual 75, 3) := by decide +kernel
theorem dL_isClosed_7 : decode cL_isClosed 7 = .ok (.ifCond .eq 7, 3) := by decide +kernel
theorem dL_isClosed_10 : decode cL_isClosed 10 = .ok (.lconst 1, 1) := by decide +kernel
theorem dL_isClosed_11 : decode cL_isClosed 11 = .ok (.goto 4, 3) := by decide +kernel
theorem dL_isClosed_14 : decode cL_isClosed 14 = .ok (.lconst 0, 1) := by decide +kernel
theorem dL_isClosed_15 : decode cL_isClosed 15 = .ok (.lastore, 1) := by decide +kernel
theorem dL_isClosed_16 : decode cL_isClosed 16 = .ok (.goto 6, 3) := by decide +kernel
theorem dL_isClosed_19 : decode cL_isClosed 19 = .ok (.astore_n 3, 1) := by decide +kernel
theorem dL_isClosed_20 : decode cL_isClosed 20 = .ok (.iconst 1, 1) := by decide +kernel
theorem dL_isClosed_21 : decode cL_isClosed 21 = .ok (.ireturn, 1) := by decide +kernel
theorem dL_isClosed_22 : decode cL_isClosed 22 = .ok (.iconst 0, 1) := by decide +kernel
theorem dL_isClosed_23 : decode cL_isClosed 23 = .ok (.ireturn, 1) := by decide +kernel
theorem dL_setSpeed_0 : decode cL_setSpeed 0 = .ok (.aload_n 2, 1) := by decide +kernel
theorem dL_setSpeed_1 : decode cL_setSpeed 1 = .ok (.iconst 0, 1) := by decide +kernel
theorem dL_setSpeed_2 : decode cL_setSpeed 2 = .ok (.aload_n 0, 1) := by decide +kernel
theorem dL_setSpeed_3 : decode cL_setSpeed 3 = .ok (.iload_n 1, 1) := by decide +kernel
theorem dL_setSpeed_4 : decode cL_setSpeed 4 = .ok (.invokevirtual 78, 3) := by decide +kernel
theorem dL_setSpeed_7 : decode cL_setSpeed 7 = .ok (.i2l, 1) := by decide +kernel
theorem dL_setSpeed_8 : decode cL_setSpeed 8 = .ok (.lastore, 1) := by decide +kernel
theorem dL_setSpeed_9 : decode cL_setSpeed 9 = .ok (.goto 6, 3) := by decide +kernel
theorem dL_setSpeed_12 : decode cL_setSpeed 12 = .ok (.astore_n 3, 1) := by decide +kernel
theorem dL_setSpeed_13 : decode cL_setSpeed 13 = .ok (.iconst 1, 1) := by decide +kernel
theorem dL_setSpeed_14 : decode cL_setSpeed 14 = .ok (.ireturn, 1) := by decide +kernel
theorem dL_setSpeed_15 : decode cL_setSpeed 15 = .ok (.iconst 0, 1) := by decide +kernel
theorem dL_setSpeed_16 : decode cL_setSpeed 16 = .ok (.ireturn, 1) := by decide +kernel
theorem dL_sendDown_0 : decode cL_sendDown 0 = .ok (.aload_n 3, 1) := by decide +kernel
theorem dL_sendDown_1 : decode cL_sendDown 1 = .ok (.iconst 0, 1) := by decide +kernel
theorem dL_sendDown_2 : decode cL_sendDown 2 = .ok (.aload_n 0, 1) := by decide +kernel
theorem dL_sendDown_3 : decode cL_sendDown 3 = .ok (.iload_n 1, 1) := by decide +kernel
theorem dL_sendDown_4 : decode cL_sendDown 4 = .ok (.iload_n 2, 1) := by decide +kernel
theorem dL_sendDown_5 : decode cL_sendDown 5 = .ok (.invokevirtual 81, 3) := by decide +kernel
theorem dL_sendDown_8 : decode cL_sendDown 8 = .ok (.i2l, 1) := by decide +kernel
theorem dL_sendDown_9 : decode cL_sendDown 9 = .ok (.lastore, 1) := by decide +kernel
theorem dL_sendDown_10 : decode cL_sendDown 10 = .ok (.goto 19, 3) := by decide +kernel
theorem dL_sendDown_13 : decode cL_sendDown 13 = .ok (.astore 4, 2) := by decide +kernel
theorem dL_sendDown_15 : decode cL_sendDown 15 = .ok (.iconst 1, 1) := by decide +kernel
theorem dL_sendDown_16 : decode cL_sendDown 16 = .ok (.ireturn, 1) := by decide +kernel
theorem dL_sendDown_17 : decode cL_sendDown 17 = .ok (.astore 4, 2) := by decide +kernel
theorem dL_sendDown_19 : decode cL_sendDown 19 = .ok (.iconst 2, 1) := by decide +kernel
theorem dL_sendDown_20 : decode cL_sendDown 20 = .ok (.ireturn, 1) := by decide +kernel
theorem dL_sendDown_21 : decode cL_sendDown 21 = .ok (.astore 4, 2) := by decide +kernel
theorem dL_sendDown_23 : decode cL_sendDown 23 = .ok (.iconst 3, 1) := by decide +kernel
theorem dL_sendDown_24 : decode cL_sendDown 24 = .ok (.ireturn, 1) := by decide +kernel
theorem dL_sendDown_25 : decode cL_sendDown 25 = .ok (.astore 4, 2) := by decide +kernel
theorem dL_sendDown_27 : decode cL_sendDown 27 = .ok (.iconst 4, 1) := by decide +kernel
theorem dL_sendDown_28 : decode cL_sendDown 28 = .ok (.ireturn, 1) := by decide +kernel
theorem dL_sendDown_29 : decode cL_sendDown 29 = .ok (.iconst 0, 1) := by decide +kernel
theorem dL_sendDown_30 : decode cL_sendDown 30 = .ok (.ireturn, 1) := by decide +kernel
theorem dL_callUp_0 : decode cL_callUp 0 = .ok (.aload_n 3, 1) := by decide +kernel
theorem dL_callUp_1 : decode cL_callUp 1 = .ok (.iconst 0, 1) := by decide +kernel
theorem dL_callUp_2 : decode cL_callUp 2 = .ok (.aload_n 0, 1) := by decide +kernel
theorem dL_callUp_3 : decode cL_callUp 3 = .ok (.iload_n 1, 1) := by decide +kernel
theorem dL_callUp_4 : decode cL_callUp 4 = .ok (.iload_n 2, 1) := by decide +kernel
theorem dL_callUp_5 : decode cL_callUp 5 = .ok (.invokevirtual 84, 3) := by decide +kernel
theorem dL_callUp_8 : decode cL_callUp 8 = .ok (.i2l, 1) := by decide +kernel
theorem dL_callUp_9 : decode cL_callUp 9 = .ok (.lastore, 1) := by decide +kernel
theorem dL_callUp_10 : decode cL_callUp 10 = .ok (.goto 15, 3) := by decide +kernel
theorem dL_callUp_13 : decode cL_callUp 13 = .ok (.astore 4, 2) := by decide +kernel
theorem dL_callUp_15 : decode cL_callUp 15 = .ok (.iconst 1, 1) := by decide +kernel
theorem dL_callUp_16 : decode cL_callUp 16 = .ok (.ireturn, 1) := by decide +kernel
theorem dL_callUp_17 : decode cL_callUp 17 = .ok (.astore 4, 2) := by decide +kernel
theorem dL_callUp_19 : decode cL_callUp 19 = .ok (.iconst 2, 1) := by decide +kernel
theorem dL_callUp_20 : decode cL_callUp 20 = .ok (.ireturn, 1) := by decide +kernel
theorem dL_callUp_21 : decode cL_callUp 21 = .ok (.astore 4, 2) := by decide +kernel
theorem dL_callUp_23 : decode cL_callUp 23 = .ok (.iconst 3, 1) := by decide +kernel
theorem dL_callUp_24 : decode cL_callUp 24 = .ok (.ireturn, 1) := by decide +kernel
theorem dL_callUp_25 : decode cL_callUp 25 = .ok (.iconst 0, 1) := by decide +kernel
theorem dL_callUp_26 : decode cL_callUp 26 = .ok (.ireturn, 1) := by decide +kernel
theorem dL_hoistOre_0 : decode cL_hoistOre 0 = .ok (.aload_n 2, 1) := by decide +kernel
theorem dL_hoistOre_1 : decode cL_hoistOre 1 = .ok (.iconst 0, 1) := by decide +kernel
theorem dL_hoistOre_2 : decode cL_hoistOre 2 = .ok (.aload_n 0, 1) := by decide +kernel
theorem dL_hoistOre_3 : decode cL_hoistOre 3 = .ok (.iload_n 1, 1) := by decide +kernel
theorem dL_hoistOre_4 : decode cL_hoistOre 4 = .ok (.invokevirtual 87, 3) := by decide +kernel
theorem dL_hoistOre_7 : decode cL_hoistOre 7 = .ok (.i2l, 1) := by decide +kernel
theorem dL_hoistOre_8 : decode cL_hoistOre 8 = .ok (.lastore, 1) := by decide +kernel
theorem dL_hoistOre_9 : decode cL_hoistOre 9 = .ok (.goto 9, 3) := by decide +kernel
theorem dL_hoistOre_12 : decode cL_hoistOre 12 = .ok (.astore_n 3, 1) := by decide +kernel
theorem dL_hoistOre_13 : decode cL_hoistOre 13 = .ok (.iconst 1, 1) := by decide +kernel
theorem dL_hoistOre_14 : decode cL_hoistOre 14 = .ok (.ireturn, 1) := by decide +kernel
theorem dL_hoistOre_15 : decode cL_hoistOre 15 = .ok (.astore_n 3, 1) := by decide +kernel
theorem dL_hoistOre_16 : decode cL_hoistOre 16 = .ok (.iconst 2, 1) := by decide +kernel
theorem dL_hoistOre_17 : decode cL_hoistOre 17 = .ok (.ireturn, 1) := by decide +kernel
theorem dL_hoistOre_18 : decode cL_hoistOre 18 = .ok (.iconst 0, 1) := by decide +kernel
theorem dL_hoistOre_19 : decode cL_hoistOre 19 = .ok (.ireturn, 1) := by decide +kernel
theorem dL_cancel_0 : decode cL_cancel 0 = .ok (.aload_n 2, 1) := by decide +kernel
theorem dL_cancel_1 : decode cL_cancel 1 = .ok (.iconst 0, 1) := by decide +kernel
theorem dL_cancel_2 : decode cL_cancel 2 = .ok (.aload_n 0, 1) := by decide +kernel
theorem dL_cancel_3 : decode cL_cancel 3 = .ok (.iload_n 1, 1) := by decide +kernel
theorem dL_cancel_4 : decode cL_cancel 4 = .ok (.invokevirtual 90, 3) := by decide +kernel
theorem dL_cancel_7 : decode cL_cancel 7 = .ok (.i2l, 1) := by decide +kernel
theorem dL_cancel_8 : decode cL_cancel 8 = .ok (.lastore, 1) := by decide +kernel
theorem dL_cancel_9 : decode cL_cancel 9 = .ok (.goto 6, 3) := by decide +kernel
theorem dL_cancel_12 : decode cL_cancel 12 = .ok (.astore_n 3, 1) := by decide +kernel
theorem dL_cancel_13 : decode cL_cancel 13 = .ok (.iconst 1, 1) := by decide +kernel
theorem dL_cancel_14 : decode cL_cancel 14 = .ok (.ireturn, 1) := by decide +kernel
theorem dL_cancel_15 : decode cL_cancel 15 = .ok (.iconst 0, 1) := by decide +kernel
theorem dL_cancel_16 : decode cL_cancel 16 = .ok (.ireturn, 1) := by decide +kernel
theorem dL_waitingAt_0 : decode cL_waitingAt 0 = .ok (.aload_n 2, 1) := by decide +kernel
theorem dL_waitingAt_1 : decode cL_waitingAt 1 = .ok (.iconst 0, 1) := by decide +kernel
theorem dL_waitingAt_2 : decode cL_waitingAt 2 = .ok (.aload_n 0, 1) := by decide +kernel
theorem dL_waitingAt_3 : decode cL_waitingAt 3 = .ok (.iload_n 1, 1) := by decide +kernel
theorem dL_waitingAt_4 : decode cL_waitingAt 4 = .ok (.invokevirtual 93, 3) := by decide +kernel
theorem dL_waitingAt_7 : decode cL_waitingAt 7 = .ok (.i2l, 1) := by decide +kernel
theorem dL_waitingAt_8 : decode cL_waitingAt 8 = .ok (.lastore, 1) := by decide +kernel
theorem dL_waitingAt_9 : decode cL_waitingAt 9 = .ok (.goto 6, 3) := by decide +kernel
theorem dL_waitingAt_12 : decode cL_waitingAt 12 = .ok (.astore_n 3, 1) := by decide +kernel
theorem dL_waitingAt_13 : decode cL_waitingAt 13 = .ok (.iconst 1, 1) := by decide +kernel
theorem dL_waitingAt_14 : decode cL_waitingAt 14 = .ok (.ireturn, 1) := by decide +kernel
theorem dL_waitingAt_15 : decode cL_waitingAt 15 = .ok (.iconst 0, 1) := by decide +kernel
theorem dL_waitingAt_16 : decode cL_waitingAt 16 = .ok (.ireturn, 1) := by decide +kernel
theorem dL_pass_0 : decode cL_pass 0 = .ok (.aload_n 2, 1) := by decide +kernel
theorem dL_pass_1 : decode cL_pass 1 = .ok (.iconst 0, 1) := by decide +kernel
theorem dL_pass_2 : decode cL_pass 2 = .ok (.aload_n 0, 1) := by decide +kernel
theorem dL_pass_3 : decode cL_pass 3 = .ok (.iload_n 1, 1) := by decide +kernel
theorem dL_pass_4 : decode cL_pass 4 = .ok (.invokevirtual 96, 3) := by decide +kernel
theorem dL_pass_7 : decode cL_pass 7 = .ok (.i2l, 1) := by decide +kernel
theorem dL_pass_8 : decode cL_pass 8 = .ok (.lastore, 1) := by decide +kernel
theorem dL_pass_9 : decode cL_pass 9 = .ok (.goto 9, 3) := by decide +kernel
theorem dL_pass_12 : decode cL_pass 12 = .ok (.astore_n 3, 1) := by decide +kernel
theorem dL_pass_13 : decode cL_pass 13 = .ok (.iconst 1, 1) := by decide +kernel
theorem dL_pass_14 : decode cL_pass 14 = .ok (.ireturn, 1) := by decide +kernel
theorem dL_pass_15 : decode cL_pass 15 = .ok (.astore_n 3, 1) := by decide +kernel
theorem dL_pass_16 : decode cL_pass 16 = .ok (.iconst 2, 1) := by decide +kernel
theorem dL_pass_17 : decode cL_pass 17 = .ok (.ireturn, 1) := by decide +kernel
theorem dL_pass_18 : decode cL_pass 18 = .ok (.iconst 0, 1) := by decide +kernel
theorem dL_pass_19 : decode cL_pass 19 = .ok (.ireturn, 1) := by decide +kernel
theorem dL_tripLevel_0 : decode cL_tripLevel 0 = .ok (.aload_n 1, 1) := by decide +kernel
theorem dL_tripLevel_1 : decode cL_tripLevel 1 = .ok (.iconst 0, 1) := by decide +kernel
theorem dL_tripLevel_2 : decode cL_tripLevel 2 = .ok (.aload_n 0, 1) := by decide +kernel
theorem dL_tripLevel_3 : decode cL_tripLevel 3 = .ok (.invokevirtual 99, 3) := by decide +kernel
theorem dL_tripLevel_6 : decode cL_tripLevel 6 = .ok (.i2l, 1) := by decide +kernel
theorem dL_tripLevel_7 : decode cL_tripLevel 7 = .ok (.lastore, 1) := by decide +kernel
theorem dL_tripLevel_8 : decode cL_tripLevel 8 = .ok (.goto 6, 3) := by decide +kernel
theorem dL_tripLevel_11 : decode cL_tripLevel 11 = .ok (.astore_n 2, 1) := by decide +kernel
theorem dL_tripLevel_12 : decode cL_tripLevel 12 = .ok (.iconst 1, 1) := by decide +kernel
theorem dL_tripLevel_13 : decode cL_tripLevel 13 = .ok (.ireturn, 1) := by decide +kernel
theorem dL_tripLevel_14 : decode cL_tripLevel 14 = .ok (.iconst 0, 1) := by decide +kernel
theorem dL_tripLevel_15 : decode cL_tripLevel 15 = .ok (.ireturn, 1) := by decide +kernel
theorem dL_tripLoad_0 : decode cL_tripLoad 0 = .ok (.aload_n 1, 1) := by decide +kernel
theorem dL_tripLoad_1 : decode cL_tripLoad 1 = .ok (.iconst 0, 1) := by decide +kernel
theorem dL_tripLoad_2 : decode cL_tripLoad 2 = .ok (.aload_n 0, 1) := by decide +kernel
theorem dL_tripLoad_3 : decode cL_tripLoad 3 = .ok (.invokevirtual 103, 3) := by decide +kernel
theorem dL_tripLoad_6 : decode cL_tripLoad 6 = .ok (.i2l, 1) := by decide +kernel
theorem dL_tripLoad_7 : decode cL_tripLoad 7 = .ok (.lastore, 1) := by decide +kernel
theorem dL_tripLoad_8 : decode cL_tripLoad 8 = .ok (.goto 6, 3) := by decide +kernel
theorem dL_tripLoad_11 : decode cL_tripLoad 11 = .ok (.astore_n 2, 1) := by decide +kernel
theorem dL_tripLoad_12 : decode cL_tripLoad 12 = .ok (.iconst 1, 1) := by decide +kernel
theorem dL_tripLoad_13 : decode cL_tripLoad 13 = .ok (.ireturn, 1) := by decide +kernel
theorem dL_tripLoad_14 : decode cL_tripLoad 14 = .ok (.iconst 0, 1) := by decide +kernel
theorem dL_tripLoad_15 : decode cL_tripLoad 15 = .ok (.ireturn, 1) := by decide +kernel
theorem dL_tripRest_0 : decode cL_tripRest 0 = .ok (.aload_n 1, 1) := by decide +kernel
theorem dL_tripRest_1 : decode cL_tripRest 1 = .ok (.iconst 0, 1) := by decide +kernel
theorem dL_tripRest_2 : decode cL_tripRest 2 = .ok (.aload_n 0, 1) := by decide +kernel
theorem dL_tripRest_3 : decode cL_tripRest 3 = .ok (.invokevirtual 106, 3) := by decide +kernel
theorem dL_tripRest_6 : decode cL_tripRest 6 = .ok (.i2l, 1) := by decide +kernel
theorem dL_tripRest_7 : decode cL_tripRest 7 = .ok (.lastore, 1) := by decide +kernel
theorem dL_tripRest_8 : decode cL_tripRest 8 = .ok (.goto 6, 3) := by decide +kernel
theorem dL_tripRest_11 : decode cL_tripRest 11 = .ok (.astore_n 2, 1) := by decide +kernel
theorem dL_tripRest_12 : decode cL_tripRest 12 = .ok (.iconst 1, 1) := by decide +kernel
theorem dL_tripRest_13 : decode cL_tripRest 13 = .ok (.ireturn, 1) := by decide +kernel
theorem dL_tripRest_14 : decode cL_tripRest 14 = .ok (.iconst 0, 1) := by decide +kernel
theorem dL_tripRest_15 : decode cL_tripRest 15 = .ok (.ireturn, 1) := by decide +kernel
theorem dL_waitFor_0 : decode cL_waitFor 0 = .ok (.aload_n 2, 1) := by decide +kernel
theorem dL_waitFor_1 : decode cL_waitFor 1 = .ok (.iconst 0, 1) := by decide +kernel
theorem dL_waitFor_2 : decode cL_waitFor 2 = .ok (.aload_n 0, 1) := by decide +kernel
theorem dL_waitFor_3 : decode cL_waitFor 3 = .ok (.iload_n 1, 1) := by decide +kernel
theorem dL_waitFor_4 : decode cL_waitFor 4 = .ok (.invokevirtual 109, 3) := by decide +kernel
theorem dL_waitFor_7 : decode cL_waitFor 7 = .ok (.i2l, 1) := by decide +kernel
theorem dL_waitFor_8 : decode cL_waitFor 8 = .ok (.lastore, 1) := by decide +kernel
theorem dL_waitFor_9 : decode cL_waitFor 9 = .ok (.goto 9, 3) := by decide +kernel
theorem dL_waitFor_12 : decode cL_waitFor 12 = .ok (.astore_n 3, 1) := by decide +kernel
theorem dL_waitFor_13 : decode cL_waitFor 13 = .ok (.iconst 1, 1) := by decide +kernel
theorem dL_waitFor_14 : decode cL_waitFor 14 = .ok (.ireturn, 1) := by decide +kernel
theorem dL_waitFor_15 : decode cL_waitFor 15 = .ok (.astore_n 3, 1) := by decide +kernel
theorem dL_waitFor_16 : decode cL_waitFor 16 = .ok (.iconst 2, 1) := by decide +kernel
theorem dL_waitFor_17 : decode cL_waitFor 17 = .ok (.ireturn, 1) := by decide +kernel
theorem dL_waitFor_18 : decode cL_waitFor 18 = .ok (.iconst 0, 1) := by decide +kernel
theorem dL_waitFor_19 : decode cL_waitFor 19 = .ok (.ireturn, 1) := by decide +kernel
