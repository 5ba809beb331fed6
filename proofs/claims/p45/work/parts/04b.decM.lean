theorem dL_some_0 : decode cL_some 0 = .ok (.iload_n 0, 1) := by decide +kernel
theorem dL_some_1 : decode cL_some 1 = .ok (.iload_n 1, 1) := by decide +kernel
theorem dL_some_2 : decode cL_some 2 = .ok (.irem, 1) := by decide +kernel
theorem dL_some_3 : decode cL_some 3 = .ok (.istore_n 2, 1) := by decide +kernel
theorem dL_some_4 : decode cL_some 4 = .ok (.iload_n 2, 1) := by decide +kernel
theorem dL_some_5 : decode cL_some 5 = .ok (.ifCond .ge 9, 3) := by decide +kernel
theorem dL_some_8 : decode cL_some 8 = .ok (.iload_n 2, 1) := by decide +kernel
theorem dL_some_9 : decode cL_some 9 = .ok (.iload_n 1, 1) := by decide +kernel
theorem dL_some_10 : decode cL_some 10 = .ok (.iadd, 1) := by decide +kernel
theorem dL_some_11 : decode cL_some 11 = .ok (.goto 4, 3) := by decide +kernel
theorem dL_some_14 : decode cL_some 14 = .ok (.iload_n 2, 1) := by decide +kernel
theorem dL_some_15 : decode cL_some 15 = .ok (.ireturn, 1) := by decide +kernel
theorem dL_level_0 : decode cL_level 0 = .ok (.aload_n 0, 1) := by decide +kernel
theorem dL_level_1 : decode cL_level 1 = .ok (.iload_n 1, 1) := by decide +kernel
theorem dL_level_2 : decode cL_level 2 = .ok (.iload_n 2, 1) := by decide +kernel
theorem dL_level_3 : decode cL_level 3 = .ok (.iload_n 3, 1) := by decide +kernel
theorem dL_level_4 : decode cL_level 4 = .ok (.iload 4, 2) := by decide +kernel
theorem dL_level_6 : decode cL_level 6 = .ok (.invokevirtual 7, 3) := by decide +kernel
theorem dL_level_9 : decode cL_level 9 = .ok (.ireturn, 1) := by decide +kernel
theorem dL_level_10 : decode cL_level 10 = .ok (.astore 5, 2) := by decide +kernel
theorem dL_level_12 : decode cL_level 12 = .ok (.sipush (-1001), 3) := by decide +kernel
theorem dL_level_15 : decode cL_level 15 = .ok (.ireturn, 1) := by decide +kernel
theorem dL_level_16 : decode cL_level 16 = .ok (.astore 5, 2) := by decide +kernel
theorem dL_level_18 : decode cL_level 18 = .ok (.sipush (-1002), 3) := by decide +kernel
theorem dL_level_21 : decode cL_level 21 = .ok (.ireturn, 1) := by decide +kernel
theorem dL_sets_0 : decode cL_sets 0 = .ok (.iload_n 1, 1) := by decide +kernel
theorem dL_sets_1 : decode cL_sets 1 = .ok (.bipush 102, 2) := by decide +kernel
theorem dL_sets_3 : decode cL_sets 3 = .ok (.if_icmp .ne 11, 3) := by decide +kernel
theorem dL_sets_6 : decode cL_sets 6 = .ok (.aload_n 0, 1) := by decide +kernel
theorem dL_sets_7 : decode cL_sets 7 = .ok (.iload_n 2, 1) := by decide +kernel
theorem dL_sets_8 : decode cL_sets 8 = .ok (.invokevirtual 17, 3) := by decide +kernel
theorem dL_sets_11 : decode cL_sets 11 = .ok (.goto 22, 3) := by decide +kernel
theorem dL_sets_14 : decode cL_sets 14 = .ok (.iload_n 1, 1) := by decide +kernel
theorem dL_sets_15 : decode cL_sets 15 = .ok (.bipush 108, 2) := by decide +kernel
theorem dL_sets_17 : decode cL_sets 17 = .ok (.if_icmp .ne 11, 3) := by decide +kernel
theorem dL_sets_20 : decode cL_sets 20 = .ok (.aload_n 0, 1) := by decide +kernel
theorem dL_sets_21 : decode cL_sets 21 = .ok (.iload_n 2, 1) := by decide +kernel
theorem dL_sets_22 : decode cL_sets 22 = .ok (.invokevirtual 21, 3) := by decide +kernel
theorem dL_sets_25 : decode cL_sets 25 = .ok (.goto 8, 3) := by decide +kernel
theorem dL_sets_28 : decode cL_sets 28 = .ok (.aload_n 0, 1) := by decide +kernel
theorem dL_sets_29 : decode cL_sets 29 = .ok (.iload_n 2, 1) := by decide +kernel
theorem dL_sets_30 : decode cL_sets 30 = .ok (.invokevirtual 24, 3) := by decide +kernel
theorem dL_sets_33 : decode cL_sets 33 = .ok (.ireturn, 1) := by decide +kernel
theorem dL_sets_34 : decode cL_sets 34 = .ok (.astore_n 3, 1) := by decide +kernel
theorem dL_sets_35 : decode cL_sets 35 = .ok (.sipush (-1001), 3) := by decide +kernel
theorem dL_sets_38 : decode cL_sets 38 = .ok (.ireturn, 1) := by decide +kernel
theorem dL_door_0 : decode cL_door 0 = .ok (.aload_n 0, 1) := by decide +kernel
theorem dL_door_1 : decode cL_door 1 = .ok (.iload_n 1, 1) := by decide +kernel
theorem dL_door_2 : decode cL_door 2 = .ok (.iload_n 2, 1) := by decide +kernel
theorem dL_door_3 : decode cL_door 3 = .ok (.invokevirtual 27, 3) := by decide +kernel
theorem dL_door_6 : decode cL_door 6 = .ok (.ifCond .eq 7, 3) := by decide +kernel
theorem dL_door_9 : decode cL_door 9 = .ok (.iconst 1, 1) := by decide +kernel
theorem dL_door_10 : decode cL_door 10 = .ok (.goto 4, 3) := by decide +kernel
theorem dL_door_13 : decode cL_door 13 = .ok (.iconst 0, 1) := by decide +kernel
theorem dL_door_14 : decode cL_door 14 = .ok (.ireturn, 1) := by decide +kernel
theorem dL_door_15 : decode cL_door 15 = .ok (.astore_n 3, 1) := by decide +kernel
theorem dL_door_16 : decode cL_door 16 = .ok (.sipush (-1001), 3) := by decide +kernel
theorem dL_door_19 : decode cL_door 19 = .ok (.ireturn, 1) := by decide +kernel
theorem dL_pass_0 : decode cL_pass 0 = .ok (.aload_n 0, 1) := by decide +kernel
theorem dL_pass_1 : decode cL_pass 1 = .ok (.iload_n 1, 1) := by decide +kernel
theorem dL_pass_2 : decode cL_pass 2 = .ok (.invokevirtual 33, 3) := by decide +kernel
theorem dL_pass_5 : decode cL_pass 5 = .ok (.ireturn, 1) := by decide +kernel
theorem dL_pass_6 : decode cL_pass 6 = .ok (.astore_n 2, 1) := by decide +kernel
theorem dL_pass_7 : decode cL_pass 7 = .ok (.sipush (-1001), 3) := by decide +kernel
theorem dL_pass_10 : decode cL_pass 10 = .ok (.ireturn, 1) := by decide +kernel
theorem dL_pass_11 : decode cL_pass 11 = .ok (.astore_n 2, 1) := by decide +kernel
theorem dL_pass_12 : decode cL_pass 12 = .ok (.sipush (-1002), 3) := by decide +kernel
theorem dL_pass_15 : decode cL_pass 15 = .ok (.ireturn, 1) := by decide +kernel
theorem dL_of_0 : decode cL_of 0 = .ok (.iload_n 2, 1) := by decide +kernel
theorem dL_of_1 : decode cL_of 1 = .ok (.tableswitch 113 0 8 #[51, 57, 63, 69, 75, 81, 95, 101, 107], 51) := by decide +kernel
theorem dL_of_52 : decode cL_of 52 = .ok (.aload_n 0, 1) := by decide +kernel
theorem dL_of_53 : decode cL_of 53 = .ok (.iload_n 1, 1) := by decide +kernel
theorem dL_of_54 : decode cL_of 54 = .ok (.invokevirtual 36, 3) := by decide +kernel
theorem dL_of_57 : decode cL_of 57 = .ok (.ireturn, 1) := by decide +kernel
theorem dL_of_58 : decode cL_of 58 = .ok (.aload_n 0, 1) := by decide +kernel
theorem dL_of_59 : decode cL_of 59 = .ok (.iload_n 1, 1) := by decide +kernel
theorem dL_of_60 : decode cL_of 60 = .ok (.invokevirtual 39, 3) := by decide +kernel
theorem dL_of_63 : decode cL_of 63 = .ok (.ireturn, 1) := by decide +kernel
theorem dL_of_64 : decode cL_of 64 = .ok (.aload_n 0, 1) := by decide +kernel
theorem dL_of_65 : decode cL_of 65 = .ok (.iload_n 1, 1) := by decide +kernel
theorem dL_of_66 : decode cL_of 66 = .ok (.invokevirtual 42, 3) := by decide +kernel
theorem dL_of_69 : decode cL_of 69 = .ok (.ireturn, 1) := by decide +kernel
theorem dL_of_70 : decode cL_of 70 = .ok (.aload_n 0, 1) := by decide +kernel
theorem dL_of_71 : decode cL_of 71 = .ok (.iload_n 1, 1) := by decide +kernel
theorem dL_of_72 : decode cL_of 72 = .ok (.invokevirtual 45, 3) := by decide +kernel
theorem dL_of_75 : decode cL_of 75 = .ok (.ireturn, 1) := by decide +kernel
theorem dL_of_76 : decode cL_of 76 = .ok (.aload_n 0, 1) := by decide +kernel
theorem dL_of_77 : decode cL_of 77 = .ok (.iload_n 1, 1) := by decide +kernel
theorem dL_of_78 : decode cL_of 78 = .ok (.invokevirtual 48, 3) := by decide +kernel
theorem dL_of_81 : decode cL_of 81 = .ok (.ireturn, 1) := by decide +kernel
theorem dL_of_82 : decode cL_of 82 = .ok (.aload_n 0, 1) := by decide +kernel
theorem dL_of_83 : decode cL_of 83 = .ok (.iload_n 1, 1) := by decide +kernel
theorem dL_of_84 : decode cL_of 84 = .ok (.invokevirtual 51, 3) := by decide +kernel
theorem dL_of_87 : decode cL_of 87 = .ok (.ifCond .eq 7, 3) := by decide +kernel
theorem dL_of_90 : decode cL_of 90 = .ok (.iconst 1, 1) := by decide +kernel
theorem dL_of_91 : decode cL_of 91 = .ok (.goto 4, 3) := by decide +kernel
theorem dL_of_94 : decode cL_of 94 = .ok (.iconst 0, 1) := by decide +kernel
theorem dL_of_95 : decode cL_of 95 = .ok (.ireturn, 1) := by decide +kernel
theorem dL_of_96 : decode cL_of 96 = .ok (.aload_n 0, 1) := by decide +kernel
theorem dL_of_97 : decode cL_of 97 = .ok (.iload_n 1, 1) := by decide +kernel
theorem dL_of_98 : decode cL_of 98 = .ok (.invokevirtual 55, 3) := by decide +kernel
theorem dL_of_101 : decode cL_of 101 = .ok (.ireturn, 1) := by decide +kernel
theorem dL_of_102 : decode cL_of 102 = .ok (.aload_n 0, 1) := by decide +kernel
theorem dL_of_103 : decode cL_of 103 = .ok (.iload_n 1, 1) := by decide +kernel
theorem dL_of_104 : decode cL_of 104 = .ok (.invokevirtual 58, 3) := by decide +kernel
theorem dL_of_107 : decode cL_of 107 = .ok (.ireturn, 1) := by decide +kernel
theorem dL_of_108 : decode cL_of 108 = .ok (.aload_n 0, 1) := by decide +kernel
theorem dL_of_109 : decode cL_of 109 = .ok (.iload_n 1, 1) := by decide +kernel
theorem dL_of_110 : decode cL_of 110 = .ok (.invokevirtual 61, 3) := by decide +kernel
theorem dL_of_113 : decode cL_of 113 = .ok (.ireturn, 1) := by decide +kernel
theorem dL_of_114 : decode cL_of 114 = .ok (.aload_n 0, 1) := by decide +kernel
theorem dL_of_115 : decode cL_of 115 = .ok (.iload_n 1, 1) := by decide +kernel
theorem dL_of_116 : decode cL_of 116 = .ok (.invokevirtual 64, 3) := by decide +kernel
theorem dL_of_119 : decode cL_of 119 = .ok (.ifCond .eq 7, 3) := by decide +kernel
theorem dL_of_122 : decode cL_of 122 = .ok (.iconst 1, 1) := by decide +kernel
theorem dL_of_123 : decode cL_of 123 = .ok (.goto 4, 3) := by decide +kernel
theorem dL_of_126 : decode cL_of 126 = .ok (.iconst 0, 1) := by decide +kernel
theorem dL_of_127 : decode cL_of 127 = .ok (.ireturn, 1) := by decide +kernel
theorem dL_of_128 : decode cL_of 128 = .ok (.astore_n 3, 1) := by decide +kernel
theorem dL_of_129 : decode cL_of 129 = .ok (.sipush (-1001), 3) := by decide +kernel
theorem dL_of_132 : decode cL_of 132 = .ok (.ireturn, 1) := by decide +kernel
theorem dL_of_133 : decode cL_of 133 = .ok (.astore_n 3, 1) := by decide +kernel
theorem dL_of_134 : decode cL_of 134 = .ok (.sipush (-1002), 3) := by decide +kernel
theorem dL_of_137 : decode cL_of 137 = .ok (.ireturn, 1) := by decide +kernel
theorem dL_mean_0 : decode cL_mean 0 = .ok (.aload_n 0, 1) := by decide +kernel
theorem dL_mean_1 : decode cL_mean 1 = .ok (.invokevirtual 69, 3) := by decide +kernel
theorem dL_mean_4 : decode cL_mean 4 = .ok (.dreturn, 1) := by decide +kernel
theorem dL_mean_5 : decode cL_mean 5 = .ok (.astore_n 1, 1) := by decide +kernel
theorem dL_mean_6 : decode cL_mean 6 = .ok (.ldc2_w 75, 3) := by decide +kernel
theorem dL_mean_9 : decode cL_mean 9 = .ok (.dreturn, 1) := by decide +kernel
theorem dL_hire_0 : decode cL_hire 0 = .ok (.aload_n 0, 1) := by decide +kernel
theorem dL_hire_1 : decode cL_hire 1 = .ok (.iload_n 1, 1) := by decide +kernel
theorem dL_hire_2 : decode cL_hire 2 = .ok (.invokevirtual 77, 3) := by decide +kernel
theorem dL_hire_5 : decode cL_hire 5 = .ok (.ireturn, 1) := by decide +kernel
theorem dL_hire_6 : decode cL_hire 6 = .ok (.astore_n 2, 1) := by decide +kernel
theorem dL_hire_7 : decode cL_hire 7 = .ok (.sipush (-1001), 3) := by decide +kernel
theorem dL_hire_10 : decode cL_hire 10 = .ok (.ireturn, 1) := by decide +kernel
theorem dL_hire_11 : decode cL_hire 11 = .ok (.astore_n 2, 1) := by decide +kernel
theorem dL_hire_12 : decode cL_hire 12 = .ok (.sipush (-1002), 3) := by decide +kernel
theorem dL_hire_15 : decode cL_hire 15 = .ok (.ireturn, 1) := by decide +kernel
theorem dL_blast_0 : decode cL_blast 0 = .ok (.aload_n 0, 1) := by decide +kernel
theorem dL_blast_1 : decode cL_blast 1 = .ok (.iload_n 1, 1) := by decide +kernel
theorem dL_blast_2 : decode cL_blast 2 = .ok (.iload_n 2, 1) := by decide +kernel
theorem dL_blast_3 : decode cL_blast 3 = .ok (.invokevirtual 80, 3) := by decide +kernel
theorem dL_blast_6 : decode cL_blast 6 = .ok (.ireturn, 1) := by decide +kernel
theorem dL_blast_7 : decode cL_blast 7 = .ok (.astore_n 3, 1) := by decide +kernel
theorem dL_blast_8 : decode cL_blast 8 = .ok (.sipush (-1001), 3) := by decide +kernel
theorem dL_blast_11 : decode cL_blast 11 = .ok (.ireturn, 1) := by decide +kernel
theorem dL_blast_12 : decode cL_blast 12 = .ok (.astore_n 3, 1) := by decide +kernel
theorem dL_blast_13 : decode cL_blast 13 = .ok (.sipush (-1002), 3) := by decide +kernel
theorem dL_blast_16 : decode cL_blast 16 = .ok (.ireturn, 1) := by decide +kernel
theorem dL_blast_17 : decode cL_blast 17 = .ok (.astore_n 3, 1) := by decide +kernel
theorem dL_blast_18 : decode cL_blast 18 = .ok (.sipush (-1003), 3) := by decide +kernel
theorem dL_blast_21 : decode cL_blast 21 = .ok (.ireturn, 1) := by decide +kernel
theorem dL_blast_22 : decode cL_blast 22 = .ok (.astore_n 3, 1) := by decide +kernel
theorem dL_blast_23 : decode cL_blast 23 = .ok (.sipush (-1004), 3) := by decide +kernel
theorem dL_blast_26 : decode cL_blast 26 = .ok (.ireturn, 1) := by decide +kernel
theorem dL_request_0 : decode cL_request 0 = .ok (.iload_n 1, 1) := by decide +kernel
theorem dL_request_1 : decode cL_request 1 = .ok (.bipush 100, 2) := by decide +kernel
theorem dL_request_3 : decode cL_request 3 = .ok (.if_icmp .ne 12, 3) := by decide +kernel
theorem dL_request_6 : decode cL_request 6 = .ok (.aload_n 0, 1) := by decide +kernel
theorem dL_request_7 : decode cL_request 7 = .ok (.iload_n 2, 1) := by decide +kernel
theorem dL_request_8 : decode cL_request 8 = .ok (.iload_n 3, 1) := by decide +kernel
theorem dL_request_9 : decode cL_request 9 = .ok (.invokevirtual 86, 3) := by decide +kernel
theorem dL_request_12 : decode cL_request 12 = .ok (.goto 23, 3) := by decide +kernel
theorem dL_request_15 : decode cL_request 15 = .ok (.iload_n 1, 1) := by decide +kernel
theorem dL_request_16 : decode cL_request 16 = .ok (.bipush 117, 2) := by decide +kernel
theorem dL_request_18 : decode cL_request 18 = .ok (.if_icmp .ne 12, 3) := by decide +kernel
theorem dL_request_21 : decode cL_request 21 = .ok (.aload_n 0, 1) := by decide +kernel
theorem dL_request_22 : decode cL_request 22 = .ok (.iload_n 2, 1) := by decide +kernel
theorem dL_request_23 : decode cL_request 23 = .ok (.iload_n 3, 1) := by decide +kernel
theorem dL_request_24 : decode cL_request 24 = .ok (.invokevirtual 89, 3) := by decide +kernel
theorem dL_request_27 : decode cL_request 27 = .ok (.goto 8, 3) := by decide +kernel
theorem dL_request_30 : decode cL_request 30 = .ok (.aload_n 0, 1) := by decide +kernel
theorem dL_request_31 : decode cL_request 31 = .ok (.iload_n 2, 1) := by decide +kernel
theorem dL_request_32 : decode cL_request 32 = .ok (.invokevirtual 92, 3) := by decide +kernel
theorem dL_request_35 : decode cL_request 35 = .ok (.ireturn, 1) := by decide +kernel
theorem dL_request_36 : decode cL_request 36 = .ok (.astore 4, 2) := by decide +kernel
theorem dL_request_38 : decode cL_request 38 = .ok (.sipush (-1001), 3) := by decide +kernel
theorem dL_request_41 : decode cL_request 41 = .ok (.ireturn, 1) := by decide +kernel
theorem dL_request_42 : decode cL_request 42 = .ok (.astore 4, 2) := by decide +kernel
theorem dL_request_44 : decode cL_request 44 = .ok (.sipush (-1002), 3) := by decide +kernel
theorem dL_request_47 : decode cL_request 47 = .ok (.ireturn, 1) := by decide +kernel
theorem dL_request_48 : decode cL_request 48 = .ok (.astore 4, 2) := by decide +kernel
theorem dL_request_50 : decode cL_request 50 = .ok (.sipush (-1003), 3) := by decide +kernel
theorem dL_request_53 : decode cL_request 53 = .ok (.ireturn, 1) := by decide +kernel
theorem dL_request_54 : decode cL_request 54 = .ok (.astore 4, 2) := by decide +kernel
theorem dL_request_56 : decode cL_request 56 = .ok (.sipush (-1004), 3) := by decide +kernel
theorem dL_request_59 : decode cL_request 59 = .ok (.ireturn, 1) := by decide +kernel
theorem dL_asked_0 : decode cL_asked 0 = .ok (.iload_n 2, 1) := by decide +kernel
theorem dL_asked_1 : decode cL_asked 1 = .ok (.ifCond .ne 11, 3) := by decide +kernel
theorem dL_asked_4 : decode cL_asked 4 = .ok (.aload_n 0, 1) := by decide +kernel
theorem dL_asked_5 : decode cL_asked 5 = .ok (.iload_n 1, 1) := by decide +kernel
theorem dL_asked_6 : decode cL_asked 6 = .ok (.invokevirtual 95, 3) := by decide +kernel
theorem dL_asked_9 : decode cL_asked 9 = .ok (.goto 21, 3) := by decide +kernel
theorem dL_asked_12 : decode cL_asked 12 = .ok (.iload_n 2, 1) := by decide +kernel
theorem dL_asked_13 : decode cL_asked 13 = .ok (.iconst 1, 1) := by decide +kernel
theorem dL_asked_14 : decode cL_asked 14 = .ok (.if_icmp .ne 11, 3) := by decide +kernel
theorem dL_asked_17 : decode cL_asked 17 = .ok (.aload_n 0, 1) := by decide +kernel
theorem dL_asked_18 : decode cL_asked 18 = .ok (.iload_n 1, 1) := by decide +kernel
theorem dL_asked_19 : decode cL_asked 19 = .ok (.invokevirtual 98, 3) := by decide +kernel
theorem dL_asked_22 : decode cL_asked 22 = .ok (.goto 8, 3) := by decide +kernel
theorem dL_asked_25 : decode cL_asked 25 = .ok (.aload_n 0, 1) := by decide +kernel
theorem dL_asked_26 : decode cL_asked 26 = .ok (.iload_n 1, 1) := by decide +kernel
theorem dL_asked_27 : decode cL_asked 27 = .ok (.invokevirtual 101, 3) := by decide +kernel
theorem dL_asked_30 : decode cL_asked 30 = .ok (.ireturn, 1) := by decide +kernel
theorem dL_asked_31 : decode cL_asked 31 = .ok (.astore_n 3, 1) := by decide +kernel
theorem dL_asked_32 : decode cL_asked 32 = .ok (.sipush (-1001), 3) := by decide +kernel
theorem dL_asked_35 : decode cL_asked 35 = .ok (.ireturn, 1) := by decide +kernel
theorem dL_asked_36 : decode cL_asked 36 = .ok (.astore_n 3, 1) := by decide +kernel
theorem dL_asked_37 : decode cL_asked 37 = .ok (.sipush (-1001), 3) := by decide +kernel
theorem dL_asked_40 : decode cL_asked 40 = .ok (.ireturn, 1) := by decide +kernel
theorem dL_asked_41 : decode cL_asked 41 = .ok (.astore_n 3, 1) := by decide +kernel
theorem dL_asked_42 : decode cL_asked 42 = .ok (.sipush (-1002), 3) := by decide +kernel
theorem dL_asked_45 : decode cL_asked 45 = .ok (.ireturn, 1) := by decide +kernel
theorem dL_trip_0 : decode cL_trip 0 = .ok (.iload_n 1, 1) := by decide +kernel
theorem dL_trip_1 : decode cL_trip 1 = .ok (.ifCond .ne 10, 3) := by decide +kernel
theorem dL_trip_4 : decode cL_trip 4 = .ok (.aload_n 0, 1) := by decide +kernel
theorem dL_trip_5 : decode cL_trip 5 = .ok (.invokevirtual 104, 3) := by decide +kernel
theorem dL_trip_8 : decode cL_trip 8 = .ok (.goto 19, 3) := by decide +kernel
theorem dL_trip_11 : decode cL_trip 11 = .ok (.iload_n 1, 1) := by decide +kernel
theorem dL_trip_12 : decode cL_trip 12 = .ok (.iconst 1, 1) := by decide +kernel
theorem dL_trip_13 : decode cL_trip 13 = .ok (.if_icmp .ne 10, 3) := by decide +kernel
theorem dL_trip_16 : decode cL_trip 16 = .ok (.aload_n 0, 1) := by decide +kernel
theorem dL_trip_17 : decode cL_trip 17 = .ok (.invokevirtual 108, 3) := by decide +kernel
theorem dL_trip_20 : decode cL_trip 20 = .ok (.goto 7, 3) := by decide +kernel
theorem dL_trip_23 : decode cL_trip 23 = .ok (.aload_n 0, 1) := by decide +kernel
theorem dL_trip_24 : decode cL_trip 24 = .ok (.invokevirtual 111, 3) := by decide +kernel
theorem dL_trip_27 : decode cL_trip 27 = .ok (.ireturn, 1) := by decide +kernel
theorem dL_trip_28 : decode cL_trip 28 = .ok (.astore_n 2, 1) := by decide +kernel
theorem dL_trip_29 : decode cL_trip 29 = .ok (.sipush (-1001), 3) := by decide +kernel
theorem dL_trip_32 : decode cL_trip 32 = .ok (.ireturn, 1) := by decide +kernel
theorem dL_sum_0 : decode cL_sum 0 = .ok (.aload_n 0, 1) := by decide +kernel
theorem dL_sum_1 : decode cL_sum 1 = .ok (.invokevirtual 118, 3) := by decide +kernel
theorem dL_sum_4 : decode cL_sum 4 = .ok (.i2l, 1) := by decide +kernel
theorem dL_sum_5 : decode cL_sum 5 = .ok (.ldc2_w 121, 3) := by decide +kernel
theorem dL_sum_8 : decode cL_sum 8 = .ok (.aload_n 0, 1) := by decide +kernel
theorem dL_sum_9 : decode cL_sum 9 = .ok (.invokevirtual 123, 3) := by decide +kernel
theorem dL_sum_12 : decode cL_sum 12 = .ok (.i2l, 1) := by decide +kernel
theorem dL_sum_13 : decode cL_sum 13 = .ok (.lmul, 1) := by decide +kernel
theorem dL_sum_14 : decode cL_sum 14 = .ok (.ladd, 1) := by decide +kernel
theorem dL_sum_15 : decode cL_sum 15 = .ok (.ldc2_w 126, 3) := by decide +kernel
theorem dL_sum_18 : decode cL_sum 18 = .ok (.aload_n 0, 1) := by decide +kernel
theorem dL_sum_19 : decode cL_sum 19 = .ok (.invokevirtual 128, 3) := by decide +kernel
theorem dL_sum_22 : decode cL_sum 22 = .ok (.i2l, 1) := by decide +kernel
theorem dL_sum_23 : decode cL_sum 23 = .ok (.lmul, 1) := by decide +kernel
theorem dL_sum_24 : decode cL_sum 24 = .ok (.ladd, 1) := by decide +kernel
theorem dL_sum_25 : decode cL_sum 25 = .ok (.ldc2_w 131, 3) := by decide +kernel
theorem dL_sum_28 : decode cL_sum 28 = .ok (.aload_n 0, 1) := by decide +kernel
theorem dL_sum_29 : decode cL_sum 29 = .ok (.invokevirtual 133, 3) := by decide +kernel
theorem dL_sum_32 : decode cL_sum 32 = .ok (.i2l, 1) := by decide +kernel
theorem dL_sum_33 : decode cL_sum 33 = .ok (.lmul, 1) := by decide +kernel
theorem dL_sum_34 : decode cL_sum 34 = .ok (.ladd, 1) := by decide +kernel
theorem dL_sum_35 : decode cL_sum 35 = .ok (.ldc2_w 136, 3) := by decide +kernel
theorem dL_sum_38 : decode cL_sum 38 = .ok (.aload_n 0, 1) := by decide +kernel
theorem dL_sum_39 : decode cL_sum 39 = .ok (.invokevirtual 138, 3) := by decide +kernel
theorem dL_sum_42 : decode cL_sum 42 = .ok (.i2l, 1) := by decide +kernel
theorem dL_sum_43 : decode cL_sum 43 = .ok (.lmul, 1) := by decide +kernel
theorem dL_sum_44 : decode cL_sum 44 = .ok (.ladd, 1) := by decide +kernel
theorem dL_sum_45 : decode cL_sum 45 = .ok (.ldc2_w 141, 3) := by decide +kernel
theorem dL_sum_48 : decode cL_sum 48 = .ok (.aload_n 0, 1) := by decide +kernel
theorem dL_sum_49 : decode cL_sum 49 = .ok (.invokevirtual 143, 3) := by decide +kernel
theorem dL_sum_52 : decode cL_sum 52 = .ok (.i2l, 1) := by decide +kernel
theorem dL_sum_53 : decode cL_sum 53 = .ok (.lmul, 1) := by decide +kernel
theorem dL_sum_54 : decode cL_sum 54 = .ok (.ladd, 1) := by decide +kernel
theorem dL_sum_55 : decode cL_sum 55 = .ok (.ldc2_w 146, 3) := by decide +kernel
theorem dL_sum_58 : decode cL_sum 58 = .ok (.aload_n 0, 1) := by decide +kernel
theorem dL_sum_59 : decode cL_sum 59 = .ok (.invokevirtual 148, 3) := by decide +kernel
theorem dL_sum_62 : decode cL_sum 62 = .ok (.i2l, 1) := by decide +kernel
theorem dL_sum_63 : decode cL_sum 63 = .ok (.lmul, 1) := by decide +kernel
theorem dL_sum_64 : decode cL_sum 64 = .ok (.ladd, 1) := by decide +kernel
theorem dL_sum_65 : decode cL_sum 65 = .ok (.ldc2_w 151, 3) := by decide +kernel
theorem dL_sum_68 : decode cL_sum 68 = .ok (.aload_n 0, 1) := by decide +kernel
theorem dL_sum_69 : decode cL_sum 69 = .ok (.invokevirtual 153, 3) := by decide +kernel
theorem dL_sum_72 : decode cL_sum 72 = .ok (.i2l, 1) := by decide +kernel
theorem dL_sum_73 : decode cL_sum 73 = .ok (.lmul, 1) := by decide +kernel
theorem dL_sum_74 : decode cL_sum 74 = .ok (.ladd, 1) := by decide +kernel
theorem dL_sum_75 : decode cL_sum 75 = .ok (.ldc2_w 157, 3) := by decide +kernel
theorem dL_sum_78 : decode cL_sum 78 = .ok (.aload_n 0, 1) := by decide +kernel
theorem dL_sum_79 : decode cL_sum 79 = .ok (.invokevirtual 159, 3) := by decide +kernel
theorem dL_sum_82 : decode cL_sum 82 = .ok (.i2l, 1) := by decide +kernel
theorem dL_sum_83 : decode cL_sum 83 = .ok (.lmul, 1) := by decide +kernel
theorem dL_sum_84 : decode cL_sum 84 = .ok (.ladd, 1) := by decide +kernel
theorem dL_sum_85 : decode cL_sum 85 = .ok (.lstore_n 1, 1) := by decide +kernel
theorem dL_sum_86 : decode cL_sum 86 = .ok (.iconst 0, 1) := by decide +kernel
theorem dL_sum_87 : decode cL_sum 87 = .ok (.istore_n 3, 1) := by decide +kernel
theorem dL_sum_88 : decode cL_sum 88 = .ok (.iload_n 3, 1) := by decide +kernel
theorem dL_sum_89 : decode cL_sum 89 = .ok (.aload_n 0, 1) := by decide +kernel
theorem dL_sum_90 : decode cL_sum 90 = .ok (.invokevirtual 162, 3) := by decide +kernel
theorem dL_sum_93 : decode cL_sum 93 = .ok (.if_icmp .gt 96, 3) := by decide +kernel
theorem dL_sum_96 : decode cL_sum 96 = .ok (.ldc2_w 121, 3) := by decide +kernel
theorem dL_sum_99 : decode cL_sum 99 = .ok (.lload_n 1, 1) := by decide +kernel
theorem dL_sum_100 : decode cL_sum 100 = .ok (.lmul, 1) := by decide +kernel
theorem dL_sum_101 : decode cL_sum 101 = .ok (.aload_n 0, 1) := by decide +kernel
theorem dL_sum_102 : decode cL_sum 102 = .ok (.iload_n 3, 1) := by decide +kernel
theorem dL_sum_103 : decode cL_sum 103 = .ok (.bipush 7, 2) := by decide +kernel
theorem dL_sum_105 : decode cL_sum 105 = .ok (.invokestatic 165, 3) := by decide +kernel
theorem dL_sum_108 : decode cL_sum 108 = .ok (.i2l, 1) := by decide +kernel
theorem dL_sum_109 : decode cL_sum 109 = .ok (.ladd, 1) := by decide +kernel
theorem dL_sum_110 : decode cL_sum 110 = .ok (.ldc2_w 171, 3) := by decide +kernel
theorem dL_sum_113 : decode cL_sum 113 = .ok (.aload_n 0, 1) := by decide +kernel
theorem dL_sum_114 : decode cL_sum 114 = .ok (.iload_n 3, 1) := by decide +kernel
theorem dL_sum_115 : decode cL_sum 115 = .ok (.bipush 8, 2) := by decide +kernel
theorem dL_sum_117 : decode cL_sum 117 = .ok (.invokestatic 165, 3) := by decide +kernel
theorem dL_sum_120 : decode cL_sum 120 = .ok (.i2l, 1) := by decide +kernel
theorem dL_sum_121 : decode cL_sum 121 = .ok (.lmul, 1) := by decide +kernel
theorem dL_sum_122 : decode cL_sum 122 = .ok (.ladd, 1) := by decide +kernel
theorem dL_sum_123 : decode cL_sum 123 = .ok (.lstore_n 1, 1) := by decide +kernel
theorem dL_sum_124 : decode cL_sum 124 = .ok (.iload_n 3, 1) := by decide +kernel
theorem dL_sum_125 : decode cL_sum 125 = .ok (.ifCond .ne 7, 3) := by decide +kernel
theorem dL_sum_128 : decode cL_sum 128 = .ok (.lload_n 1, 1) := by decide +kernel
theorem dL_sum_129 : decode cL_sum 129 = .ok (.goto 53, 3) := by decide +kernel
theorem dL_sum_132 : decode cL_sum 132 = .ok (.ldc2_w 121, 3) := by decide +kernel
theorem dL_sum_135 : decode cL_sum 135 = .ok (.lload_n 1, 1) := by decide +kernel
theorem dL_sum_136 : decode cL_sum 136 = .ok (.lmul, 1) := by decide +kernel
theorem dL_sum_137 : decode cL_sum 137 = .ok (.aload_n 0, 1) := by decide +kernel
theorem dL_sum_138 : decode cL_sum 138 = .ok (.iload_n 3, 1) := by decide +kernel
theorem dL_sum_139 : decode cL_sum 139 = .ok (.iconst 1, 1) := by decide +kernel
theorem dL_sum_140 : decode cL_sum 140 = .ok (.invokestatic 165, 3) := by decide +kernel
theorem dL_sum_143 : decode cL_sum 143 = .ok (.i2l, 1) := by decide +kernel
theorem dL_sum_144 : decode cL_sum 144 = .ok (.ladd, 1) := by decide +kernel
theorem dL_sum_145 : decode cL_sum 145 = .ok (.ldc2_w 171, 3) := by decide +kernel
theorem dL_sum_148 : decode cL_sum 148 = .ok (.aload_n 0, 1) := by decide +kernel
theorem dL_sum_149 : decode cL_sum 149 = .ok (.iload_n 3, 1) := by decide +kernel
theorem dL_sum_150 : decode cL_sum 150 = .ok (.iconst 3, 1) := by decide +kernel
theorem dL_sum_151 : decode cL_sum 151 = .ok (.invokestatic 165, 3) := by decide +kernel
theorem dL_sum_154 : decode cL_sum 154 = .ok (.i2l, 1) := by decide +kernel
theorem dL_sum_155 : decode cL_sum 155 = .ok (.lmul, 1) := by decide +kernel
theorem dL_sum_156 : decode cL_sum 156 = .ok (.ladd, 1) := by decide +kernel
theorem dL_sum_157 : decode cL_sum 157 = .ok (.ldc2_w 173, 3) := by decide +kernel
theorem dL_sum_160 : decode cL_sum 160 = .ok (.aload_n 0, 1) := by decide +kernel
theorem dL_sum_161 : decode cL_sum 161 = .ok (.iload_n 3, 1) := by decide +kernel
theorem dL_sum_162 : decode cL_sum 162 = .ok (.iconst 5, 1) := by decide +kernel
theorem dL_sum_163 : decode cL_sum 163 = .ok (.invokestatic 165, 3) := by decide +kernel
theorem dL_sum_166 : decode cL_sum 166 = .ok (.i2l, 1) := by decide +kernel
theorem dL_sum_167 : decode cL_sum 167 = .ok (.lmul, 1) := by decide +kernel
theorem dL_sum_168 : decode cL_sum 168 = .ok (.ladd, 1) := by decide +kernel
theorem dL_sum_169 : decode cL_sum 169 = .ok (.ldc2_w 131, 3) := by decide +kernel
theorem dL_sum_172 : decode cL_sum 172 = .ok (.aload_n 0, 1) := by decide +kernel
theorem dL_sum_173 : decode cL_sum 173 = .ok (.iload_n 3, 1) := by decide +kernel
theorem dL_sum_174 : decode cL_sum 174 = .ok (.bipush 9, 2) := by decide +kernel
theorem dL_sum_176 : decode cL_sum 176 = .ok (.invokestatic 165, 3) := by decide +kernel
theorem dL_sum_179 : decode cL_sum 179 = .ok (.i2l, 1) := by decide +kernel
theorem dL_sum_180 : decode cL_sum 180 = .ok (.lmul, 1) := by decide +kernel
theorem dL_sum_181 : decode cL_sum 181 = .ok (.ladd, 1) := by decide +kernel
theorem dL_sum_182 : decode cL_sum 182 = .ok (.lstore_n 1, 1) := by decide +kernel
theorem dL_sum_183 : decode cL_sum 183 = .ok (.iinc 3 1, 3) := by decide +kernel
theorem dL_sum_186 : decode cL_sum 186 = .ok (.goto (-98), 3) := by decide +kernel
theorem dL_sum_189 : decode cL_sum 189 = .ok (.iconst 0, 1) := by decide +kernel
theorem dL_sum_190 : decode cL_sum 190 = .ok (.istore_n 3, 1) := by decide +kernel
theorem dL_sum_191 : decode cL_sum 191 = .ok (.iload_n 3, 1) := by decide +kernel
theorem dL_sum_192 : decode cL_sum 192 = .ok (.aload_n 0, 1) := by decide +kernel
theorem dL_sum_193 : decode cL_sum 193 = .ok (.invokevirtual 138, 3) := by decide +kernel
theorem dL_sum_196 : decode cL_sum 196 = .ok (.if_icmp .ge 23, 3) := by decide +kernel
theorem dL_sum_199 : decode cL_sum 199 = .ok (.ldc2_w 121, 3) := by decide +kernel
theorem dL_sum_202 : decode cL_sum 202 = .ok (.lload_n 1, 1) := by decide +kernel
theorem dL_sum_203 : decode cL_sum 203 = .ok (.lmul, 1) := by decide +kernel
theorem dL_sum_204 : decode cL_sum 204 = .ok (.aload_n 0, 1) := by decide +kernel
theorem dL_sum_205 : decode cL_sum 205 = .ok (.iload_n 3, 1) := by decide +kernel
theorem dL_sum_206 : decode cL_sum 206 = .ok (.iconst 1, 1) := by decide +kernel
theorem dL_sum_207 : decode cL_sum 207 = .ok (.invokestatic 175, 3) := by decide +kernel
theorem dL_sum_210 : decode cL_sum 210 = .ok (.i2l, 1) := by decide +kernel
theorem dL_sum_211 : decode cL_sum 211 = .ok (.ladd, 1) := by decide +kernel
theorem dL_sum_212 : decode cL_sum 212 = .ok (.lstore_n 1, 1) := by decide +kernel
theorem dL_sum_213 : decode cL_sum 213 = .ok (.iinc 3 1, 3) := by decide +kernel
theorem dL_sum_216 : decode cL_sum 216 = .ok (.goto (-25), 3) := by decide +kernel
theorem dL_sum_219 : decode cL_sum 219 = .ok (.ldc2_w 121, 3) := by decide +kernel
theorem dL_sum_222 : decode cL_sum 222 = .ok (.lload_n 1, 1) := by decide +kernel
theorem dL_sum_223 : decode cL_sum 223 = .ok (.lmul, 1) := by decide +kernel
theorem dL_sum_224 : decode cL_sum 224 = .ok (.aload_n 0, 1) := by decide +kernel
theorem dL_sum_225 : decode cL_sum 225 = .ok (.iconst 0, 1) := by decide +kernel
theorem dL_sum_226 : decode cL_sum 226 = .ok (.invokestatic 178, 3) := by decide +kernel
theorem dL_sum_229 : decode cL_sum 229 = .ok (.i2l, 1) := by decide +kernel
theorem dL_sum_230 : decode cL_sum 230 = .ok (.ladd, 1) := by decide +kernel
theorem dL_sum_231 : decode cL_sum 231 = .ok (.ldc2_w 171, 3) := by decide +kernel
theorem dL_sum_234 : decode cL_sum 234 = .ok (.aload_n 0, 1) := by decide +kernel
theorem dL_sum_235 : decode cL_sum 235 = .ok (.iconst 1, 1) := by decide +kernel
theorem dL_sum_236 : decode cL_sum 236 = .ok (.invokestatic 178, 3) := by decide +kernel
theorem dL_sum_239 : decode cL_sum 239 = .ok (.i2l, 1) := by decide +kernel
theorem dL_sum_240 : decode cL_sum 240 = .ok (.lmul, 1) := by decide +kernel
theorem dL_sum_241 : decode cL_sum 241 = .ok (.ladd, 1) := by decide +kernel
theorem dL_sum_242 : decode cL_sum 242 = .ok (.ldc2_w 173, 3) := by decide +kernel
theorem dL_sum_245 : decode cL_sum 245 = .ok (.aload_n 0, 1) := by decide +kernel
theorem dL_sum_246 : decode cL_sum 246 = .ok (.iconst 2, 1) := by decide +kernel
theorem dL_sum_247 : decode cL_sum 247 = .ok (.invokestatic 178, 3) := by decide +kernel
theorem dL_sum_250 : decode cL_sum 250 = .ok (.i2l, 1) := by decide +kernel
theorem dL_sum_251 : decode cL_sum 251 = .ok (.lmul, 1) := by decide +kernel
theorem dL_sum_252 : decode cL_sum 252 = .ok (.ladd, 1) := by decide +kernel
theorem dL_sum_253 : decode cL_sum 253 = .ok (.lreturn, 1) := by decide +kernel
theorem dL_isSound_0 : decode cL_isSound 0 = .ok (.iconst 0, 1) := by decide +kernel
theorem dL_isSound_1 : decode cL_isSound 1 = .ok (.istore_n 2, 1) := by decide +kernel
theorem dL_isSound_2 : decode cL_isSound 2 = .ok (.iconst 0, 1) := by decide +kernel
theorem dL_isSound_3 : decode cL_isSound 3 = .ok (.istore_n 3, 1) := by decide +kernel
theorem dL_isSound_4 : decode cL_isSound 4 = .ok (.iconst 0, 1) := by decide +kernel
theorem dL_isSound_5 : decode cL_isSound 5 = .ok (.istore 4, 2) := by decide +kernel
theorem dL_isSound_7 : decode cL_isSound 7 = .ok (.iconst 0, 1) := by decide +kernel
theorem dL_isSound_8 : decode cL_isSound 8 = .ok (.istore 5, 2) := by decide +kernel
theorem dL_isSound_10 : decode cL_isSound 10 = .ok (.iconst 0, 1) := by decide +kernel
theorem dL_isSound_11 : decode cL_isSound 11 = .ok (.istore 6, 2) := by decide +kernel
theorem dL_isSound_13 : decode cL_isSound 13 = .ok (.iconst 0, 1) := by decide +kernel
theorem dL_isSound_14 : decode cL_isSound 14 = .ok (.istore 7, 2) := by decide +kernel
theorem dL_isSound_16 : decode cL_isSound 16 = .ok (.aload_n 0, 1) := by decide +kernel
theorem dL_isSound_17 : decode cL_isSound 17 = .ok (.bipush 102, 2) := by decide +kernel
theorem dL_isSound_19 : decode cL_isSound 19 = .ok (.iconst 0, 1) := by decide +kernel
theorem dL_isSound_20 : decode cL_isSound 20 = .ok (.invokestatic 182, 3) := by decide +kernel
theorem dL_isSound_23 : decode cL_isSound 23 = .ok (.istore 8, 2) := by decide +kernel
theorem dL_isSound_25 : decode cL_isSound 25 = .ok (.aload_n 0, 1) := by decide +kernel
theorem dL_isSound_26 : decode cL_isSound 26 = .ok (.bipush 102, 2) := by decide +kernel
theorem dL_isSound_28 : decode cL_isSound 28 = .ok (.iload 8, 2) := by decide +kernel
theorem dL_isSound_30 : decode cL_isSound 30 = .ok (.invokestatic 182, 3) := by decide +kernel
theorem dL_isSound_33 : decode cL_isSound 33 = .ok (.istore 9, 2) := by decide +kernel
theorem dL_isSound_35 : decode cL_isSound 35 = .ok (.iconst 0, 1) := by decide +kernel
theorem dL_isSound_36 : decode cL_isSound 36 = .ok (.istore 10, 2) := by decide +kernel
theorem dL_isSound_38 : decode cL_isSound 38 = .ok (.iload 10, 2) := by decide +kernel
theorem dL_isSound_40 : decode cL_isSound 40 = .ok (.aload_n 0, 1) := by decide +kernel
theorem dL_isSound_41 : decode cL_isSound 41 = .ok (.invokevirtual 162, 3) := by decide +kernel
theorem dL_isSound_44 : decode cL_isSound 44 = .ok (.if_icmp .gt 192, 3) := by decide +kernel
theorem dL_isSound_47 : decode cL_isSound 47 = .ok (.iload 4, 2) := by decide +kernel
theorem dL_isSound_49 : decode cL_isSound 49 = .ok (.aload_n 0, 1) := by decide +kernel
theorem dL_isSound_50 : decode cL_isSound 50 = .ok (.iload 10, 2) := by decide +kernel
theorem dL_isSound_52 : decode cL_isSound 52 = .ok (.bipush 7, 2) := by decide +kernel
theorem dL_isSound_54 : decode cL_isSound 54 = .ok (.invokestatic 165, 3) := by decide +kernel
theorem dL_isSound_57 : decode cL_isSound 57 = .ok (.iadd, 1) := by decide +kernel
theorem dL_isSound_58 : decode cL_isSound 58 = .ok (.istore 4, 2) := by decide +kernel
theorem dL_isSound_60 : decode cL_isSound 60 = .ok (.iload 5, 2) := by decide +kernel
theorem dL_isSound_62 : decode cL_isSound 62 = .ok (.aload_n 0, 1) := by decide +kernel
theorem dL_isSound_63 : decode cL_isSound 63 = .ok (.iload 10, 2) := by decide +kernel
theorem dL_isSound_65 : decode cL_isSound 65 = .ok (.bipush 8, 2) := by decide +kernel
theorem dL_isSound_67 : decode cL_isSound 67 = .ok (.invokestatic 165, 3) := by decide +kernel
theorem dL_isSound_70 : decode cL_isSound 70 = .ok (.iadd, 1) := by decide +kernel
theorem dL_isSound_71 : decode cL_isSound 71 = .ok (.istore 5, 2) := by decide +kernel
theorem dL_isSound_73 : decode cL_isSound 73 = .ok (.iload 10, 2) := by decide +kernel
theorem dL_isSound_75 : decode cL_isSound 75 = .ok (.ifCond .le 155, 3) := by decide +kernel
theorem dL_isSound_78 : decode cL_isSound 78 = .ok (.aload_n 0, 1) := by decide +kernel
theorem dL_isSound_79 : decode cL_isSound 79 = .ok (.iload 10, 2) := by decide +kernel
theorem dL_isSound_81 : decode cL_isSound 81 = .ok (.iconst 1, 1) := by decide +kernel
theorem dL_isSound_82 : decode cL_isSound 82 = .ok (.invokestatic 165, 3) := by decide +kernel
theorem dL_isSound_85 : decode cL_isSound 85 = .ok (.istore 11, 2) := by decide +kernel
theorem dL_isSound_87 : decode cL_isSound 87 = .ok (.iload_n 2, 1) := by decide +kernel
theorem dL_isSound_88 : decode cL_isSound 88 = .ok (.aload_n 0, 1) := by decide +kernel
theorem dL_isSound_89 : decode cL_isSound 89 = .ok (.iload 10, 2) := by decide +kernel
theorem dL_isSound_91 : decode cL_isSound 91 = .ok (.iconst 3, 1) := by decide +kernel
theorem dL_isSound_92 : decode cL_isSound 92 = .ok (.invokestatic 165, 3) := by decide +kernel
theorem dL_isSound_95 : decode cL_isSound 95 = .ok (.iadd, 1) := by decide +kernel
theorem dL_isSound_96 : decode cL_isSound 96 = .ok (.istore_n 2, 1) := by decide +kernel
theorem dL_isSound_97 : decode cL_isSound 97 = .ok (.iload_n 3, 1) := by decide +kernel
theorem dL_isSound_98 : decode cL_isSound 98 = .ok (.iload 11, 2) := by decide +kernel
theorem dL_isSound_100 : decode cL_isSound 100 = .ok (.iadd, 1) := by decide +kernel
theorem dL_isSound_101 : decode cL_isSound 101 = .ok (.istore_n 3, 1) := by decide +kernel
theorem dL_isSound_102 : decode cL_isSound 102 = .ok (.iload 7, 2) := by decide +kernel
theorem dL_isSound_104 : decode cL_isSound 104 = .ok (.ifCond .ne 8, 3) := by decide +kernel
theorem dL_isSound_107 : decode cL_isSound 107 = .ok (.iload 11, 2) := by decide +kernel
theorem dL_isSound_109 : decode cL_isSound 109 = .ok (.ifCond .le 7, 3) := by decide +kernel
theorem dL_isSound_112 : decode cL_isSound 112 = .ok (.iconst 1, 1) := by decide +kernel
theorem dL_isSound_113 : decode cL_isSound 113 = .ok (.goto 4, 3) := by decide +kernel
theorem dL_isSound_116 : decode cL_isSound 116 = .ok (.iconst 0, 1) := by decide +kernel
theorem dL_isSound_117 : decode cL_isSound 117 = .ok (.istore 7, 2) := by decide +kernel
theorem dL_isSound_119 : decode cL_isSound 119 = .ok (.iload 6, 2) := by decide +kernel
theorem dL_isSound_121 : decode cL_isSound 121 = .ok (.aload_n 0, 1) := by decide +kernel
theorem dL_isSound_122 : decode cL_isSound 122 = .ok (.iload 10, 2) := by decide +kernel
theorem dL_isSound_124 : decode cL_isSound 124 = .ok (.iconst 5, 1) := by decide +kernel
theorem dL_isSound_125 : decode cL_isSound 125 = .ok (.invokestatic 165, 3) := by decide +kernel
theorem dL_isSound_128 : decode cL_isSound 128 = .ok (.iconst 1, 1) := by decide +kernel
theorem dL_isSound_129 : decode cL_isSound 129 = .ok (.if_icmp .ne 14, 3) := by decide +kernel
theorem dL_isSound_132 : decode cL_isSound 132 = .ok (.aload_n 0, 1) := by decide +kernel
theorem dL_isSound_133 : decode cL_isSound 133 = .ok (.iload 10, 2) := by decide +kernel
theorem dL_isSound_135 : decode cL_isSound 135 = .ok (.bipush 7, 2) := by decide +kernel
theorem dL_isSound_137 : decode cL_isSound 137 = .ok (.invokestatic 165, 3) := by decide +kernel
theorem dL_isSound_140 : decode cL_isSound 140 = .ok (.goto 4, 3) := by decide +kernel
theorem dL_isSound_143 : decode cL_isSound 143 = .ok (.iconst 0, 1) := by decide +kernel
theorem dL_isSound_144 : decode cL_isSound 144 = .ok (.iadd, 1) := by decide +kernel
theorem dL_isSound_145 : decode cL_isSound 145 = .ok (.istore 6, 2) := by decide +kernel
theorem dL_isSound_147 : decode cL_isSound 147 = .ok (.iload 11, 2) := by decide +kernel
theorem dL_isSound_149 : decode cL_isSound 149 = .ok (.aload_n 0, 1) := by decide +kernel
theorem dL_isSound_150 : decode cL_isSound 150 = .ok (.iload 10, 2) := by decide +kernel
theorem dL_isSound_152 : decode cL_isSound 152 = .ok (.iconst 2, 1) := by decide +kernel
theorem dL_isSound_153 : decode cL_isSound 153 = .ok (.invokestatic 165, 3) := by decide +kernel
theorem dL_isSound_156 : decode cL_isSound 156 = .ok (.if_icmp .ne 72, 3) := by decide +kernel
theorem dL_isSound_159 : decode cL_isSound 159 = .ok (.iload 11, 2) := by decide +kernel
theorem dL_isSound_161 : decode cL_isSound 161 = .ok (.ifCond .lt 67, 3) := by decide +kernel
theorem dL_isSound_164 : decode cL_isSound 164 = .ok (.aload_n 0, 1) := by decide +kernel
theorem dL_isSound_165 : decode cL_isSound 165 = .ok (.iload 10, 2) := by decide +kernel
theorem dL_isSound_167 : decode cL_isSound 167 = .ok (.iconst 3, 1) := by decide +kernel
theorem dL_isSound_168 : decode cL_isSound 168 = .ok (.invokestatic 165, 3) := by decide +kernel
theorem dL_isSound_171 : decode cL_isSound 171 = .ok (.ifCond .lt 57, 3) := by decide +kernel
theorem dL_isSound_174 : decode cL_isSound 174 = .ok (.aload_n 0, 1) := by decide +kernel
theorem dL_isSound_175 : decode cL_isSound 175 = .ok (.iload 10, 2) := by decide +kernel
theorem dL_isSound_177 : decode cL_isSound 177 = .ok (.iconst 5, 1) := by decide +kernel
theorem dL_isSound_178 : decode cL_isSound 178 = .ok (.invokestatic 165, 3) := by decide +kernel
theorem dL_isSound_181 : decode cL_isSound 181 = .ok (.iconst 1, 1) := by decide +kernel
theorem dL_isSound_182 : decode cL_isSound 182 = .ok (.if_icmp .ne 7, 3) := by decide +kernel
theorem dL_isSound_185 : decode cL_isSound 185 = .ok (.iconst 1, 1) := by decide +kernel
theorem dL_isSound_186 : decode cL_isSound 186 = .ok (.goto 4, 3) := by decide +kernel
theorem dL_isSound_189 : decode cL_isSound 189 = .ok (.iconst 0, 1) := by decide +kernel
theorem dL_isSound_190 : decode cL_isSound 190 = .ok (.aload_n 0, 1) := by decide +kernel
theorem dL_isSound_191 : decode cL_isSound 191 = .ok (.iload 10, 2) := by decide +kernel
theorem dL_isSound_193 : decode cL_isSound 193 = .ok (.bipush 6, 2) := by decide +kernel
theorem dL_isSound_195 : decode cL_isSound 195 = .ok (.invokestatic 165, 3) := by decide +kernel
theorem dL_isSound_198 : decode cL_isSound 198 = .ok (.ifCond .ne 7, 3) := by decide +kernel
theorem dL_isSound_201 : decode cL_isSound 201 = .ok (.iconst 1, 1) := by decide +kernel
theorem dL_isSound_202 : decode cL_isSound 202 = .ok (.goto 4, 3) := by decide +kernel
theorem dL_isSound_205 : decode cL_isSound 205 = .ok (.iconst 0, 1) := by decide +kernel
theorem dL_isSound_206 : decode cL_isSound 206 = .ok (.if_icmp .ne 22, 3) := by decide +kernel
theorem dL_isSound_209 : decode cL_isSound 209 = .ok (.aload_n 0, 1) := by decide +kernel
theorem dL_isSound_210 : decode cL_isSound 210 = .ok (.iload 10, 2) := by decide +kernel
theorem dL_isSound_212 : decode cL_isSound 212 = .ok (.iconst 0, 1) := by decide +kernel
theorem dL_isSound_213 : decode cL_isSound 213 = .ok (.invokestatic 165, 3) := by decide +kernel
theorem dL_isSound_216 : decode cL_isSound 216 = .ok (.aload_n 0, 1) := by decide +kernel
theorem dL_isSound_217 : decode cL_isSound 217 = .ok (.iload 10, 2) := by decide +kernel
theorem dL_isSound_219 : decode cL_isSound 219 = .ok (.iconst 1, 1) := by decide +kernel
theorem dL_isSound_220 : decode cL_isSound 220 = .ok (.isub, 1) := by decide +kernel
theorem dL_isSound_221 : decode cL_isSound 221 = .ok (.iconst 0, 1) := by decide +kernel
theorem dL_isSound_222 : decode cL_isSound 222 = .ok (.invokestatic 165, 3) := by decide +kernel
theorem dL_isSound_225 : decode cL_isSound 225 = .ok (.if_icmp .gt 5, 3) := by decide +kernel
theorem dL_isSound_228 : decode cL_isSound 228 = .ok (.iconst 0, 1) := by decide +kernel
theorem dL_isSound_229 : decode cL_isSound 229 = .ok (.ireturn, 1) := by decide +kernel
theorem dL_isSound_230 : decode cL_isSound 230 = .ok (.iinc 10 1, 3) := by decide +kernel
theorem dL_isSound_233 : decode cL_isSound 233 = .ok (.goto (-195), 3) := by decide +kernel
theorem dL_isSound_236 : decode cL_isSound 236 = .ok (.aload_n 0, 1) := by decide +kernel
theorem dL_isSound_237 : decode cL_isSound 237 = .ok (.invokevirtual 153, 3) := by decide +kernel
theorem dL_isSound_240 : decode cL_isSound 240 = .ok (.istore 10, 2) := by decide +kernel
theorem dL_isSound_242 : decode cL_isSound 242 = .ok (.aload_n 0, 1) := by decide +kernel
theorem dL_isSound_243 : decode cL_isSound 243 = .ok (.iconst 1, 1) := by decide +kernel
theorem dL_isSound_244 : decode cL_isSound 244 = .ok (.invokestatic 178, 3) := by decide +kernel
theorem dL_isSound_247 : decode cL_isSound 247 = .ok (.istore 11, 2) := by decide +kernel
theorem dL_isSound_249 : decode cL_isSound 249 = .ok (.iload 10, 2) := by decide +kernel
theorem dL_isSound_251 : decode cL_isSound 251 = .ok (.bipush 45, 2) := by decide +kernel
theorem dL_isSound_253 : decode cL_isSound 253 = .ok (.if_icmp .ne 7, 3) := by decide +kernel
theorem dL_isSound_256 : decode cL_isSound 256 = .ok (.iconst 1, 1) := by decide +kernel
theorem dL_isSound_257 : decode cL_isSound 257 = .ok (.goto 4, 3) := by decide +kernel
theorem dL_isSound_260 : decode cL_isSound 260 = .ok (.iconst 0, 1) := by decide +kernel
theorem dL_isSound_261 : decode cL_isSound 261 = .ok (.iload 11, 2) := by decide +kernel
theorem dL_isSound_263 : decode cL_isSound 263 = .ok (.sipush (-1001), 3) := by decide +kernel
theorem dL_isSound_266 : decode cL_isSound 266 = .ok (.if_icmp .ne 7, 3) := by decide +kernel
theorem dL_isSound_269 : decode cL_isSound 269 = .ok (.iconst 1, 1) := by decide +kernel
theorem dL_isSound_270 : decode cL_isSound 270 = .ok (.goto 4, 3) := by decide +kernel
theorem dL_isSound_273 : decode cL_isSound 273 = .ok (.iconst 0, 1) := by decide +kernel
theorem dL_isSound_274 : decode cL_isSound 274 = .ok (.if_icmp .ne 53, 3) := by decide +kernel
theorem dL_isSound_277 : decode cL_isSound 277 = .ok (.iload 10, 2) := by decide +kernel
theorem dL_isSound_279 : decode cL_isSound 279 = .ok (.bipush 45, 2) := by decide +kernel
theorem dL_isSound_281 : decode cL_isSound 281 = .ok (.if_icmp .eq 48, 3) := by decide +kernel
theorem dL_isSound_284 : decode cL_isSound 284 = .ok (.iload 11, 2) := by decide +kernel
theorem dL_isSound_286 : decode cL_isSound 286 = .ok (.iconst 1, 1) := by decide +kernel
theorem dL_isSound_287 : decode cL_isSound 287 = .ok (.if_icmp .lt 40, 3) := by decide +kernel
theorem dL_isSound_290 : decode cL_isSound 290 = .ok (.iload 11, 2) := by decide +kernel
theorem dL_isSound_292 : decode cL_isSound 292 = .ok (.bipush 20, 2) := by decide +kernel
theorem dL_isSound_294 : decode cL_isSound 294 = .ok (.if_icmp .gt 33, 3) := by decide +kernel
theorem dL_isSound_297 : decode cL_isSound 297 = .ok (.aload_n 0, 1) := by decide +kernel
theorem dL_isSound_298 : decode cL_isSound 298 = .ok (.iconst 2, 1) := by decide +kernel
theorem dL_isSound_299 : decode cL_isSound 299 = .ok (.invokestatic 178, 3) := by decide +kernel
theorem dL_isSound_302 : decode cL_isSound 302 = .ok (.iconst 1, 1) := by decide +kernel
theorem dL_isSound_303 : decode cL_isSound 303 = .ok (.if_icmp .lt 24, 3) := by decide +kernel
theorem dL_isSound_306 : decode cL_isSound 306 = .ok (.aload_n 0, 1) := by decide +kernel
theorem dL_isSound_307 : decode cL_isSound 307 = .ok (.iconst 0, 1) := by decide +kernel
theorem dL_isSound_308 : decode cL_isSound 308 = .ok (.invokestatic 178, 3) := by decide +kernel
theorem dL_isSound_311 : decode cL_isSound 311 = .ok (.iconst 1, 1) := by decide +kernel
theorem dL_isSound_312 : decode cL_isSound 312 = .ok (.if_icmp .lt 15, 3) := by decide +kernel
theorem dL_isSound_315 : decode cL_isSound 315 = .ok (.aload_n 0, 1) := by decide +kernel
theorem dL_isSound_316 : decode cL_isSound 316 = .ok (.iconst 0, 1) := by decide +kernel
theorem dL_isSound_317 : decode cL_isSound 317 = .ok (.invokestatic 178, 3) := by decide +kernel
theorem dL_isSound_320 : decode cL_isSound 320 = .ok (.aload_n 0, 1) := by decide +kernel
theorem dL_isSound_321 : decode cL_isSound 321 = .ok (.invokevirtual 162, 3) := by decide +kernel
theorem dL_isSound_324 : decode cL_isSound 324 = .ok (.if_icmp .le 5, 3) := by decide +kernel
theorem dL_isSound_327 : decode cL_isSound 327 = .ok (.iconst 0, 1) := by decide +kernel
theorem dL_isSound_328 : decode cL_isSound 328 = .ok (.ireturn, 1) := by decide +kernel
theorem dL_isSound_329 : decode cL_isSound 329 = .ok (.iload 4, 2) := by decide +kernel
theorem dL_isSound_331 : decode cL_isSound 331 = .ok (.iload 10, 2) := by decide +kernel
theorem dL_isSound_333 : decode cL_isSound 333 = .ok (.bipush 45, 2) := by decide +kernel
theorem dL_isSound_335 : decode cL_isSound 335 = .ok (.if_icmp .eq 10, 3) := by decide +kernel
theorem dL_isSound_338 : decode cL_isSound 338 = .ok (.iload 10, 2) := by decide +kernel
theorem dL_isSound_340 : decode cL_isSound 340 = .ok (.bipush 111, 2) := by decide +kernel
theorem dL_isSound_342 : decode cL_isSound 342 = .ok (.if_icmp .ne 7, 3) := by decide +kernel
theorem dL_isSound_345 : decode cL_isSound 345 = .ok (.iconst 0, 1) := by decide +kernel
theorem dL_isSound_346 : decode cL_isSound 346 = .ok (.goto 5, 3) := by decide +kernel
theorem dL_isSound_349 : decode cL_isSound 349 = .ok (.iload 11, 2) := by decide +kernel
theorem dL_isSound_351 : decode cL_isSound 351 = .ok (.iadd, 1) := by decide +kernel
theorem dL_isSound_352 : decode cL_isSound 352 = .ok (.istore 4, 2) := by decide +kernel
theorem dL_isSound_354 : decode cL_isSound 354 = .ok (.iload 5, 2) := by decide +kernel
theorem dL_isSound_356 : decode cL_isSound 356 = .ok (.iload 10, 2) := by decide +kernel
theorem dL_isSound_358 : decode cL_isSound 358 = .ok (.bipush 111, 2) := by decide +kernel
theorem dL_isSound_360 : decode cL_isSound 360 = .ok (.if_icmp .ne 8, 3) := by decide +kernel
theorem dL_isSound_363 : decode cL_isSound 363 = .ok (.iload 11, 2) := by decide +kernel
theorem dL_isSound_365 : decode cL_isSound 365 = .ok (.goto 4, 3) := by decide +kernel
theorem dL_isSound_368 : decode cL_isSound 368 = .ok (.iconst 0, 1) := by decide +kernel
theorem dL_isSound_369 : decode cL_isSound 369 = .ok (.iadd, 1) := by decide +kernel
theorem dL_isSound_370 : decode cL_isSound 370 = .ok (.istore 5, 2) := by decide +kernel
theorem dL_isSound_372 : decode cL_isSound 372 = .ok (.iload_n 2, 1) := by decide +kernel
theorem dL_isSound_373 : decode cL_isSound 373 = .ok (.aload_n 0, 1) := by decide +kernel
theorem dL_isSound_374 : decode cL_isSound 374 = .ok (.invokevirtual 128, 3) := by decide +kernel
theorem dL_isSound_377 : decode cL_isSound 377 = .ok (.iadd, 1) := by decide +kernel
theorem dL_isSound_378 : decode cL_isSound 378 = .ok (.aload_n 0, 1) := by decide +kernel
theorem dL_isSound_379 : decode cL_isSound 379 = .ok (.invokevirtual 123, 3) := by decide +kernel
theorem dL_isSound_382 : decode cL_isSound 382 = .ok (.if_icmp .ne 62, 3) := by decide +kernel
theorem dL_isSound_385 : decode cL_isSound 385 = .ok (.iload_n 3, 1) := by decide +kernel
theorem dL_isSound_386 : decode cL_isSound 386 = .ok (.iload 7, 2) := by decide +kernel
theorem dL_isSound_388 : decode cL_isSound 388 = .ok (.ifCond .eq 8, 3) := by decide +kernel
theorem dL_isSound_391 : decode cL_isSound 391 = .ok (.iload 8, 2) := by decide +kernel
theorem dL_isSound_393 : decode cL_isSound 393 = .ok (.goto 4, 3) := by decide +kernel
theorem dL_isSound_396 : decode cL_isSound 396 = .ok (.iconst 0, 1) := by decide +kernel
theorem dL_isSound_397 : decode cL_isSound 397 = .ok (.if_icmp .ne 47, 3) := by decide +kernel
theorem dL_isSound_400 : decode cL_isSound 400 = .ok (.iload 4, 2) := by decide +kernel
theorem dL_isSound_402 : decode cL_isSound 402 = .ok (.aload_n 0, 1) := by decide +kernel
theorem dL_isSound_403 : decode cL_isSound 403 = .ok (.invokevirtual 133, 3) := by decide +kernel
theorem dL_isSound_406 : decode cL_isSound 406 = .ok (.if_icmp .ne 38, 3) := by decide +kernel
theorem dL_isSound_409 : decode cL_isSound 409 = .ok (.iload 5, 2) := by decide +kernel
theorem dL_isSound_411 : decode cL_isSound 411 = .ok (.iload_n 1, 1) := by decide +kernel
theorem dL_isSound_412 : decode cL_isSound 412 = .ok (.if_icmp .ne 32, 3) := by decide +kernel
theorem dL_isSound_415 : decode cL_isSound 415 = .ok (.aload_n 0, 1) := by decide +kernel
theorem dL_isSound_416 : decode cL_isSound 416 = .ok (.invokevirtual 186, 3) := by decide +kernel
theorem dL_isSound_419 : decode cL_isSound 419 = .ok (.iload 6, 2) := by decide +kernel
theorem dL_isSound_421 : decode cL_isSound 421 = .ok (.if_icmp .ne 23, 3) := by decide +kernel
theorem dL_isSound_424 : decode cL_isSound 424 = .ok (.aload_n 0, 1) := by decide +kernel
theorem dL_isSound_425 : decode cL_isSound 425 = .ok (.invokevirtual 138, 3) := by decide +kernel
theorem dL_isSound_428 : decode cL_isSound 428 = .ok (.bipush 8, 2) := by decide +kernel
theorem dL_isSound_430 : decode cL_isSound 430 = .ok (.if_icmp .gt 14, 3) := by decide +kernel
theorem dL_isSound_433 : decode cL_isSound 433 = .ok (.aload_n 0, 1) := by decide +kernel
theorem dL_isSound_434 : decode cL_isSound 434 = .ok (.invokevirtual 189, 3) := by decide +kernel
theorem dL_isSound_437 : decode cL_isSound 437 = .ok (.ifCond .eq 7, 3) := by decide +kernel
theorem dL_isSound_440 : decode cL_isSound 440 = .ok (.iconst 1, 1) := by decide +kernel
theorem dL_isSound_441 : decode cL_isSound 441 = .ok (.goto 4, 3) := by decide +kernel
theorem dL_isSound_444 : decode cL_isSound 444 = .ok (.iconst 0, 1) := by decide +kernel
theorem dL_isSound_445 : decode cL_isSound 445 = .ok (.ireturn, 1) := by decide +kernel
