theorem dX0_open_0 : decode cX0_open 0 = .ok (.aload_n 0, 1) := by decide +kernel
theorem dX0_open_1 : decode cX0_open 1 = .ok (.iload_n 1, 1) := by decide +kernel
theorem dX0_open_2 : decode cX0_open 2 = .ok (.putfield 7, 3) := by decide +kernel
theorem dX0_open_5 : decode cX0_open 5 = .ok (.aload_n 0, 1) := by decide +kernel
theorem dX0_open_6 : decode cX0_open 6 = .ok (.iload_n 2, 1) := by decide +kernel
theorem dX0_open_7 : decode cX0_open 7 = .ok (.putfield 13, 3) := by decide +kernel
theorem dX0_open_10 : decode cX0_open 10 = .ok (.aload_n 0, 1) := by decide +kernel
theorem dX0_open_11 : decode cX0_open 11 = .ok (.iload_n 3, 1) := by decide +kernel
theorem dX0_open_12 : decode cX0_open 12 = .ok (.putfield 16, 3) := by decide +kernel
theorem dX0_open_15 : decode cX0_open 15 = .ok (.aload_n 0, 1) := by decide +kernel
theorem dX0_open_16 : decode cX0_open 16 = .ok (.iload 4, 2) := by decide +kernel
theorem dX0_open_18 : decode cX0_open 18 = .ok (.putfield 19, 3) := by decide +kernel
theorem dX0_open_21 : decode cX0_open 21 = .ok (.aload_n 0, 1) := by decide +kernel
theorem dX0_open_22 : decode cX0_open 22 = .ok (.iconst 1, 1) := by decide +kernel
theorem dX0_open_23 : decode cX0_open 23 = .ok (.putfield 22, 3) := by decide +kernel
theorem dX0_open_26 : decode cX0_open 26 = .ok (.return_, 1) := by decide +kernel
theorem dX0_copyFrom_0 : decode cX0_copyFrom 0 = .ok (.aload_n 0, 1) := by decide +kernel
theorem dX0_copyFrom_1 : decode cX0_copyFrom 1 = .ok (.aload_n 1, 1) := by decide +kernel
theorem dX0_copyFrom_2 : decode cX0_copyFrom 2 = .ok (.getfield 7, 3) := by decide +kernel
theorem dX0_copyFrom_5 : decode cX0_copyFrom 5 = .ok (.putfield 7, 3) := by decide +kernel
theorem dX0_copyFrom_8 : decode cX0_copyFrom 8 = .ok (.aload_n 0, 1) := by decide +kernel
theorem dX0_copyFrom_9 : decode cX0_copyFrom 9 = .ok (.aload_n 1, 1) := by decide +kernel
theorem dX0_copyFrom_10 : decode cX0_copyFrom 10 = .ok (.getfield 13, 3) := by decide +kernel
theorem dX0_copyFrom_13 : decode cX0_copyFrom 13 = .ok (.putfield 13, 3) := by decide +kernel
theorem dX0_copyFrom_16 : decode cX0_copyFrom 16 = .ok (.aload_n 0, 1) := by decide +kernel
theorem dX0_copyFrom_17 : decode cX0_copyFrom 17 = .ok (.aload_n 1, 1) := by decide +kernel
theorem dX0_copyFrom_18 : decode cX0_copyFrom 18 = .ok (.getfield 16, 3) := by decide +kernel
theorem dX0_copyFrom_21 : decode cX0_copyFrom 21 = .ok (.putfield 16, 3) := by decide +kernel
theorem dX0_copyFrom_24 : decode cX0_copyFrom 24 = .ok (.aload_n 0, 1) := by decide +kernel
theorem dX0_copyFrom_25 : decode cX0_copyFrom 25 = .ok (.aload_n 1, 1) := by decide +kernel
theorem dX0_copyFrom_26 : decode cX0_copyFrom 26 = .ok (.getfield 19, 3) := by decide +kernel
theorem dX0_copyFrom_29 : decode cX0_copyFrom 29 = .ok (.putfield 19, 3) := by decide +kernel
theorem dX0_copyFrom_32 : decode cX0_copyFrom 32 = .ok (.aload_n 0, 1) := by decide +kernel
theorem dX0_copyFrom_33 : decode cX0_copyFrom 33 = .ok (.aload_n 1, 1) := by decide +kernel
theorem dX0_copyFrom_34 : decode cX0_copyFrom 34 = .ok (.getfield 22, 3) := by decide +kernel
theorem dX0_copyFrom_37 : decode cX0_copyFrom 37 = .ok (.putfield 22, 3) := by decide +kernel
theorem dX0_copyFrom_40 : decode cX0_copyFrom 40 = .ok (.aload_n 0, 1) := by decide +kernel
theorem dX0_copyFrom_41 : decode cX0_copyFrom 41 = .ok (.aload_n 1, 1) := by decide +kernel
theorem dX0_copyFrom_42 : decode cX0_copyFrom 42 = .ok (.getfield 26, 3) := by decide +kernel
theorem dX0_copyFrom_45 : decode cX0_copyFrom 45 = .ok (.putfield 26, 3) := by decide +kernel
theorem dX0_copyFrom_48 : decode cX0_copyFrom 48 = .ok (.aload_n 0, 1) := by decide +kernel
theorem dX0_copyFrom_49 : decode cX0_copyFrom 49 = .ok (.aload_n 1, 1) := by decide +kernel
theorem dX0_copyFrom_50 : decode cX0_copyFrom 50 = .ok (.getfield 29, 3) := by decide +kernel
theorem dX0_copyFrom_53 : decode cX0_copyFrom 53 = .ok (.putfield 29, 3) := by decide +kernel
theorem dX0_copyFrom_56 : decode cX0_copyFrom 56 = .ok (.aload_n 0, 1) := by decide +kernel
theorem dX0_copyFrom_57 : decode cX0_copyFrom 57 = .ok (.aload_n 1, 1) := by decide +kernel
theorem dX0_copyFrom_58 : decode cX0_copyFrom 58 = .ok (.getfield 32, 3) := by decide +kernel
theorem dX0_copyFrom_61 : decode cX0_copyFrom 61 = .ok (.putfield 32, 3) := by decide +kernel
theorem dX0_copyFrom_64 : decode cX0_copyFrom 64 = .ok (.aload_n 0, 1) := by decide +kernel
theorem dX0_copyFrom_65 : decode cX0_copyFrom 65 = .ok (.aload_n 1, 1) := by decide +kernel
theorem dX0_copyFrom_66 : decode cX0_copyFrom 66 = .ok (.getfield 35, 3) := by decide +kernel
theorem dX0_copyFrom_69 : decode cX0_copyFrom 69 = .ok (.putfield 35, 3) := by decide +kernel
theorem dX0_copyFrom_72 : decode cX0_copyFrom 72 = .ok (.aload_n 0, 1) := by decide +kernel
theorem dX0_copyFrom_73 : decode cX0_copyFrom 73 = .ok (.aload_n 1, 1) := by decide +kernel
theorem dX0_copyFrom_74 : decode cX0_copyFrom 74 = .ok (.getfield 38, 3) := by decide +kernel
theorem dX0_copyFrom_77 : decode cX0_copyFrom 77 = .ok (.putfield 38, 3) := by decide +kernel
theorem dX0_copyFrom_80 : decode cX0_copyFrom 80 = .ok (.aload_n 0, 1) := by decide +kernel
theorem dX0_copyFrom_81 : decode cX0_copyFrom 81 = .ok (.aload_n 1, 1) := by decide +kernel
theorem dX0_copyFrom_82 : decode cX0_copyFrom 82 = .ok (.getfield 41, 3) := by decide +kernel
theorem dX0_copyFrom_85 : decode cX0_copyFrom 85 = .ok (.putfield 41, 3) := by decide +kernel
theorem dX0_copyFrom_88 : decode cX0_copyFrom 88 = .ok (.return_, 1) := by decide +kernel
theorem dX0_openWidth_0 : decode cX0_openWidth 0 = .ok (.aload_n 0, 1) := by decide +kernel
theorem dX0_openWidth_1 : decode cX0_openWidth 1 = .ok (.getfield 22, 3) := by decide +kernel
theorem dX0_openWidth_4 : decode cX0_openWidth 4 = .ok (.ifCond .eq 10, 3) := by decide +kernel
theorem dX0_openWidth_7 : decode cX0_openWidth 7 = .ok (.aload_n 0, 1) := by decide +kernel
theorem dX0_openWidth_8 : decode cX0_openWidth 8 = .ok (.getfield 16, 3) := by decide +kernel
theorem dX0_openWidth_11 : decode cX0_openWidth 11 = .ok (.goto 4, 3) := by decide +kernel
theorem dX0_openWidth_14 : decode cX0_openWidth 14 = .ok (.iconst 0, 1) := by decide +kernel
theorem dX0_openWidth_15 : decode cX0_openWidth 15 = .ok (.ireturn, 1) := by decide +kernel
theorem dX0_share_0 : decode cX0_share 0 = .ok (.aload_n 0, 1) := by decide +kernel
theorem dX0_share_1 : decode cX0_share 1 = .ok (.getfield 13, 3) := by decide +kernel
theorem dX0_share_4 : decode cX0_share 4 = .ok (.ifCond .le 19, 3) := by decide +kernel
theorem dX0_share_7 : decode cX0_share 7 = .ok (.sipush 1000, 3) := by decide +kernel
theorem dX0_share_10 : decode cX0_share 10 = .ok (.aload_n 0, 1) := by decide +kernel
theorem dX0_share_11 : decode cX0_share 11 = .ok (.getfield 32, 3) := by decide +kernel
theorem dX0_share_14 : decode cX0_share 14 = .ok (.imul, 1) := by decide +kernel
theorem dX0_share_15 : decode cX0_share 15 = .ok (.aload_n 0, 1) := by decide +kernel
theorem dX0_share_16 : decode cX0_share 16 = .ok (.getfield 13, 3) := by decide +kernel
theorem dX0_share_19 : decode cX0_share 19 = .ok (.idiv, 1) := by decide +kernel
theorem dX0_share_20 : decode cX0_share 20 = .ok (.goto 4, 3) := by decide +kernel
theorem dX0_share_23 : decode cX0_share 23 = .ok (.iconst 0, 1) := by decide +kernel
theorem dX0_share_24 : decode cX0_share 24 = .ok (.ireturn, 1) := by decide +kernel
theorem dX0_gasTaken_0 : decode cX0_gasTaken 0 = .ok (.aload_n 0, 1) := by decide +kernel
theorem dX0_gasTaken_1 : decode cX0_gasTaken 1 = .ok (.getfield 13, 3) := by decide +kernel
theorem dX0_gasTaken_4 : decode cX0_gasTaken 4 = .ok (.ifCond .le 27, 3) := by decide +kernel
theorem dX0_gasTaken_7 : decode cX0_gasTaken 7 = .ok (.aload_n 0, 1) := by decide +kernel
theorem dX0_gasTaken_8 : decode cX0_gasTaken 8 = .ok (.getfield 32, 3) := by decide +kernel
theorem dX0_gasTaken_11 : decode cX0_gasTaken 11 = .ok (.aload_n 0, 1) := by decide +kernel
theorem dX0_gasTaken_12 : decode cX0_gasTaken 12 = .ok (.getfield 26, 3) := by decide +kernel
theorem dX0_gasTaken_15 : decode cX0_gasTaken 15 = .ok (.aload_n 0, 1) := by decide +kernel
theorem dX0_gasTaken_16 : decode cX0_gasTaken 16 = .ok (.getfield 13, 3) := by decide +kernel
theorem dX0_gasTaken_19 : decode cX0_gasTaken 19 = .ok (.invokestatic 44, 3) := by decide +kernel
theorem dX0_gasTaken_22 : decode cX0_gasTaken 22 = .ok (.imul, 1) := by decide +kernel
theorem dX0_gasTaken_23 : decode cX0_gasTaken 23 = .ok (.aload_n 0, 1) := by decide +kernel
theorem dX0_gasTaken_24 : decode cX0_gasTaken 24 = .ok (.getfield 13, 3) := by decide +kernel
theorem dX0_gasTaken_27 : decode cX0_gasTaken 27 = .ok (.idiv, 1) := by decide +kernel
theorem dX0_gasTaken_28 : decode cX0_gasTaken 28 = .ok (.goto 4, 3) := by decide +kernel
theorem dX0_gasTaken_31 : decode cX0_gasTaken 31 = .ok (.iconst 0, 1) := by decide +kernel
theorem dX0_gasTaken_32 : decode cX0_gasTaken 32 = .ok (.ireturn, 1) := by decide +kernel
theorem dX1_copyFrom_0 : decode cX1_copyFrom 0 = .ok (.iconst 0, 1) := by decide +kernel
theorem dX1_copyFrom_1 : decode cX1_copyFrom 1 = .ok (.istore_n 2, 1) := by decide +kernel
theorem dX1_copyFrom_2 : decode cX1_copyFrom 2 = .ok (.iload_n 2, 1) := by decide +kernel
theorem dX1_copyFrom_3 : decode cX1_copyFrom 3 = .ok (.aload_n 0, 1) := by decide +kernel
theorem dX1_copyFrom_4 : decode cX1_copyFrom 4 = .ok (.getfield 18, 3) := by decide +kernel
theorem dX1_copyFrom_7 : decode cX1_copyFrom 7 = .ok (.arraylength, 1) := by decide +kernel
theorem dX1_copyFrom_8 : decode cX1_copyFrom 8 = .ok (.if_icmp .ge 33, 3) := by decide +kernel
theorem dX1_copyFrom_11 : decode cX1_copyFrom 11 = .ok (.iload_n 2, 1) := by decide +kernel
theorem dX1_copyFrom_12 : decode cX1_copyFrom 12 = .ok (.aload_n 1, 1) := by decide +kernel
theorem dX1_copyFrom_13 : decode cX1_copyFrom 13 = .ok (.getfield 18, 3) := by decide +kernel
theorem dX1_copyFrom_16 : decode cX1_copyFrom 16 = .ok (.arraylength, 1) := by decide +kernel
theorem dX1_copyFrom_17 : decode cX1_copyFrom 17 = .ok (.if_icmp .ge 24, 3) := by decide +kernel
theorem dX1_copyFrom_20 : decode cX1_copyFrom 20 = .ok (.aload_n 0, 1) := by decide +kernel
theorem dX1_copyFrom_21 : decode cX1_copyFrom 21 = .ok (.getfield 18, 3) := by decide +kernel
theorem dX1_copyFrom_24 : decode cX1_copyFrom 24 = .ok (.iload_n 2, 1) := by decide +kernel
theorem dX1_copyFrom_25 : decode cX1_copyFrom 25 = .ok (.aaload, 1) := by decide +kernel
theorem dX1_copyFrom_26 : decode cX1_copyFrom 26 = .ok (.aload_n 1, 1) := by decide +kernel
theorem dX1_copyFrom_27 : decode cX1_copyFrom 27 = .ok (.getfield 18, 3) := by decide +kernel
theorem dX1_copyFrom_30 : decode cX1_copyFrom 30 = .ok (.iload_n 2, 1) := by decide +kernel
theorem dX1_copyFrom_31 : decode cX1_copyFrom 31 = .ok (.aaload, 1) := by decide +kernel
theorem dX1_copyFrom_32 : decode cX1_copyFrom 32 = .ok (.invokevirtual 52, 3) := by decide +kernel
theorem dX1_copyFrom_35 : decode cX1_copyFrom 35 = .ok (.iinc 2 1, 3) := by decide +kernel
theorem dX1_copyFrom_38 : decode cX1_copyFrom 38 = .ok (.goto (-36), 3) := by decide +kernel
theorem dX1_copyFrom_41 : decode cX1_copyFrom 41 = .ok (.aload_n 0, 1) := by decide +kernel
theorem dX1_copyFrom_42 : decode cX1_copyFrom 42 = .ok (.getfield 25, 3) := by decide +kernel
theorem dX1_copyFrom_45 : decode cX1_copyFrom 45 = .ok (.aload_n 1, 1) := by decide +kernel
theorem dX1_copyFrom_46 : decode cX1_copyFrom 46 = .ok (.getfield 25, 3) := by decide +kernel
theorem dX1_copyFrom_49 : decode cX1_copyFrom 49 = .ok (.invokevirtual 56, 3) := by decide +kernel
theorem dX1_copyFrom_52 : decode cX1_copyFrom 52 = .ok (.aload_n 0, 1) := by decide +kernel
theorem dX1_copyFrom_53 : decode cX1_copyFrom 53 = .ok (.getfield 32, 3) := by decide +kernel
theorem dX1_copyFrom_56 : decode cX1_copyFrom 56 = .ok (.aload_n 1, 1) := by decide +kernel
theorem dX1_copyFrom_57 : decode cX1_copyFrom 57 = .ok (.getfield 32, 3) := by decide +kernel
theorem dX1_copyFrom_60 : decode cX1_copyFrom 60 = .ok (.invokevirtual 59, 3) := by decide +kernel
theorem dX1_copyFrom_63 : decode cX1_copyFrom 63 = .ok (.aload_n 0, 1) := by decide +kernel
theorem dX1_copyFrom_64 : decode cX1_copyFrom 64 = .ok (.aload_n 1, 1) := by decide +kernel
theorem dX1_copyFrom_65 : decode cX1_copyFrom 65 = .ok (.getfield 62, 3) := by decide +kernel
theorem dX1_copyFrom_68 : decode cX1_copyFrom 68 = .ok (.putfield 62, 3) := by decide +kernel
theorem dX1_copyFrom_71 : decode cX1_copyFrom 71 = .ok (.aload_n 0, 1) := by decide +kernel
theorem dX1_copyFrom_72 : decode cX1_copyFrom 72 = .ok (.aload_n 1, 1) := by decide +kernel
theorem dX1_copyFrom_73 : decode cX1_copyFrom 73 = .ok (.getfield 36, 3) := by decide +kernel
theorem dX1_copyFrom_76 : decode cX1_copyFrom 76 = .ok (.putfield 36, 3) := by decide +kernel
theorem dX1_copyFrom_79 : decode cX1_copyFrom 79 = .ok (.aload_n 0, 1) := by decide +kernel
theorem dX1_copyFrom_80 : decode cX1_copyFrom 80 = .ok (.aload_n 1, 1) := by decide +kernel
theorem dX1_copyFrom_81 : decode cX1_copyFrom 81 = .ok (.getfield 40, 3) := by decide +kernel
theorem dX1_copyFrom_84 : decode cX1_copyFrom 84 = .ok (.putfield 40, 3) := by decide +kernel
theorem dX1_copyFrom_87 : decode cX1_copyFrom 87 = .ok (.aload_n 0, 1) := by decide +kernel
theorem dX1_copyFrom_88 : decode cX1_copyFrom 88 = .ok (.aload_n 1, 1) := by decide +kernel
theorem dX1_copyFrom_89 : decode cX1_copyFrom 89 = .ok (.getfield 43, 3) := by decide +kernel
theorem dX1_copyFrom_92 : decode cX1_copyFrom 92 = .ok (.putfield 43, 3) := by decide +kernel
theorem dX1_copyFrom_95 : decode cX1_copyFrom 95 = .ok (.aload_n 0, 1) := by decide +kernel
theorem dX1_copyFrom_96 : decode cX1_copyFrom 96 = .ok (.aload_n 1, 1) := by decide +kernel
theorem dX1_copyFrom_97 : decode cX1_copyFrom 97 = .ok (.getfield 65, 3) := by decide +kernel
theorem dX1_copyFrom_100 : decode cX1_copyFrom 100 = .ok (.putfield 65, 3) := by decide +kernel
theorem dX1_copyFrom_103 : decode cX1_copyFrom 103 = .ok (.aload_n 0, 1) := by decide +kernel
theorem dX1_copyFrom_104 : decode cX1_copyFrom 104 = .ok (.aload_n 1, 1) := by decide +kernel
theorem dX1_copyFrom_105 : decode cX1_copyFrom 105 = .ok (.getfield 68, 3) := by decide +kernel
theorem dX1_copyFrom_108 : decode cX1_copyFrom 108 = .ok (.putfield 68, 3) := by decide +kernel
theorem dX1_copyFrom_111 : decode cX1_copyFrom 111 = .ok (.aload_n 0, 1) := by decide +kernel
theorem dX1_copyFrom_112 : decode cX1_copyFrom 112 = .ok (.aload_n 1, 1) := by decide +kernel
theorem dX1_copyFrom_113 : decode cX1_copyFrom 113 = .ok (.getfield 71, 3) := by decide +kernel
theorem dX1_copyFrom_116 : decode cX1_copyFrom 116 = .ok (.putfield 71, 3) := by decide +kernel
theorem dX1_copyFrom_119 : decode cX1_copyFrom 119 = .ok (.aload_n 0, 1) := by decide +kernel
theorem dX1_copyFrom_120 : decode cX1_copyFrom 120 = .ok (.aload_n 1, 1) := by decide +kernel
theorem dX1_copyFrom_121 : decode cX1_copyFrom 121 = .ok (.getfield 74, 3) := by decide +kernel
theorem dX1_copyFrom_124 : decode cX1_copyFrom 124 = .ok (.putfield 74, 3) := by decide +kernel
theorem dX1_copyFrom_127 : decode cX1_copyFrom 127 = .ok (.aload_n 0, 1) := by decide +kernel
theorem dX1_copyFrom_128 : decode cX1_copyFrom 128 = .ok (.aload_n 1, 1) := by decide +kernel
theorem dX1_copyFrom_129 : decode cX1_copyFrom 129 = .ok (.getfield 46, 3) := by decide +kernel
theorem dX1_copyFrom_132 : decode cX1_copyFrom 132 = .ok (.putfield 46, 3) := by decide +kernel
theorem dX1_copyFrom_135 : decode cX1_copyFrom 135 = .ok (.aload_n 0, 1) := by decide +kernel
theorem dX1_copyFrom_136 : decode cX1_copyFrom 136 = .ok (.aload_n 1, 1) := by decide +kernel
theorem dX1_copyFrom_137 : decode cX1_copyFrom 137 = .ok (.getfield 77, 3) := by decide +kernel
theorem dX1_copyFrom_140 : decode cX1_copyFrom 140 = .ok (.putfield 77, 3) := by decide +kernel
theorem dX1_copyFrom_143 : decode cX1_copyFrom 143 = .ok (.aload_n 0, 1) := by decide +kernel
theorem dX1_copyFrom_144 : decode cX1_copyFrom 144 = .ok (.aload_n 1, 1) := by decide +kernel
theorem dX1_copyFrom_145 : decode cX1_copyFrom 145 = .ok (.getfield 80, 3) := by decide +kernel
theorem dX1_copyFrom_148 : decode cX1_copyFrom 148 = .ok (.putfield 80, 3) := by decide +kernel
theorem dX1_copyFrom_151 : decode cX1_copyFrom 151 = .ok (.aload_n 0, 1) := by decide +kernel
theorem dX1_copyFrom_152 : decode cX1_copyFrom 152 = .ok (.aload_n 1, 1) := by decide +kernel
theorem dX1_copyFrom_153 : decode cX1_copyFrom 153 = .ok (.getfield 49, 3) := by decide +kernel
theorem dX1_copyFrom_156 : decode cX1_copyFrom 156 = .ok (.putfield 49, 3) := by decide +kernel
theorem dX1_copyFrom_159 : decode cX1_copyFrom 159 = .ok (.return_, 1) := by decide +kernel
theorem dX1_place_0 : decode cX1_place 0 = .ok (.iload_n 1, 1) := by decide +kernel
theorem dX1_place_1 : decode cX1_place 1 = .ok (.ifCond .lt 21, 3) := by decide +kernel
theorem dX1_place_4 : decode cX1_place 4 = .ok (.iload_n 1, 1) := by decide +kernel
theorem dX1_place_5 : decode cX1_place 5 = .ok (.aload_n 0, 1) := by decide +kernel
theorem dX1_place_6 : decode cX1_place 6 = .ok (.getfield 18, 3) := by decide +kernel
theorem dX1_place_9 : decode cX1_place 9 = .ok (.arraylength, 1) := by decide +kernel
theorem dX1_place_10 : decode cX1_place 10 = .ok (.if_icmp .ge 12, 3) := by decide +kernel
theorem dX1_place_13 : decode cX1_place 13 = .ok (.aload_n 0, 1) := by decide +kernel
theorem dX1_place_14 : decode cX1_place 14 = .ok (.getfield 18, 3) := by decide +kernel
theorem dX1_place_17 : decode cX1_place 17 = .ok (.iload_n 1, 1) := by decide +kernel
theorem dX1_place_18 : decode cX1_place 18 = .ok (.aaload, 1) := by decide +kernel
theorem dX1_place_19 : decode cX1_place 19 = .ok (.goto 7, 3) := by decide +kernel
theorem dX1_place_22 : decode cX1_place 22 = .ok (.aload_n 0, 1) := by decide +kernel
theorem dX1_place_23 : decode cX1_place 23 = .ok (.getfield 12, 3) := by decide +kernel
theorem dX1_place_26 : decode cX1_place 26 = .ok (.areturn, 1) := by decide +kernel
theorem dX1_hasAlarm_0 : decode cX1_hasAlarm 0 = .ok (.aload_n 1, 1) := by decide +kernel
theorem dX1_hasAlarm_1 : decode cX1_hasAlarm 1 = .ok (.invokevirtual 83, 3) := by decide +kernel
theorem dX1_hasAlarm_4 : decode cX1_hasAlarm 4 = .ok (.aload_n 0, 1) := by decide +kernel
theorem dX1_hasAlarm_5 : decode cX1_hasAlarm 5 = .ok (.getfield 40, 3) := by decide +kernel
theorem dX1_hasAlarm_8 : decode cX1_hasAlarm 8 = .ok (.if_icmp .lt 7, 3) := by decide +kernel
theorem dX1_hasAlarm_11 : decode cX1_hasAlarm 11 = .ok (.iconst 1, 1) := by decide +kernel
theorem dX1_hasAlarm_12 : decode cX1_hasAlarm 12 = .ok (.goto 4, 3) := by decide +kernel
theorem dX1_hasAlarm_15 : decode cX1_hasAlarm 15 = .ok (.iconst 0, 1) := by decide +kernel
theorem dX1_hasAlarm_16 : decode cX1_hasAlarm 16 = .ok (.ireturn, 1) := by decide +kernel
theorem dX1_isShut_0 : decode cX1_isShut 0 = .ok (.aload_n 0, 1) := by decide +kernel
theorem dX1_isShut_1 : decode cX1_isShut 1 = .ok (.getfield 65, 3) := by decide +kernel
theorem dX1_isShut_4 : decode cX1_isShut 4 = .ok (.aload_n 1, 1) := by decide +kernel
theorem dX1_isShut_5 : decode cX1_isShut 5 = .ok (.getfield 87, 3) := by decide +kernel
theorem dX1_isShut_8 : decode cX1_isShut 8 = .ok (.if_icmp .ge 7, 3) := by decide +kernel
theorem dX1_isShut_11 : decode cX1_isShut 11 = .ok (.iconst 1, 1) := by decide +kernel
theorem dX1_isShut_12 : decode cX1_isShut 12 = .ok (.goto 4, 3) := by decide +kernel
theorem dX1_isShut_15 : decode cX1_isShut 15 = .ok (.iconst 0, 1) := by decide +kernel
theorem dX1_isShut_16 : decode cX1_isShut 16 = .ok (.ireturn, 1) := by decide +kernel
theorem dX1_isPending_0 : decode cX1_isPending 0 = .ok (.aload_n 0, 1) := by decide +kernel
theorem dX1_isPending_1 : decode cX1_isPending 1 = .ok (.getfield 25, 3) := by decide +kernel
theorem dX1_isPending_4 : decode cX1_isPending 4 = .ok (.iload_n 1, 1) := by decide +kernel
theorem dX1_isPending_5 : decode cX1_isPending 5 = .ok (.invokevirtual 90, 3) := by decide +kernel
theorem dX1_isPending_8 : decode cX1_isPending 8 = .ok (.ifCond .ne 14, 3) := by decide +kernel
theorem dX1_isPending_11 : decode cX1_isPending 11 = .ok (.aload_n 0, 1) := by decide +kernel
theorem dX1_isPending_12 : decode cX1_isPending 12 = .ok (.getfield 32, 3) := by decide +kernel
theorem dX1_isPending_15 : decode cX1_isPending 15 = .ok (.iload_n 1, 1) := by decide +kernel
theorem dX1_isPending_16 : decode cX1_isPending 16 = .ok (.invokevirtual 94, 3) := by decide +kernel
theorem dX1_isPending_19 : decode cX1_isPending 19 = .ok (.ifCond .eq 7, 3) := by decide +kernel
theorem dX1_isPending_22 : decode cX1_isPending 22 = .ok (.iconst 1, 1) := by decide +kernel
theorem dX1_isPending_23 : decode cX1_isPending 23 = .ok (.goto 4, 3) := by decide +kernel
theorem dX1_isPending_26 : decode cX1_isPending 26 = .ok (.iconst 0, 1) := by decide +kernel
theorem dX1_isPending_27 : decode cX1_isPending 27 = .ok (.ireturn, 1) := by decide +kernel
theorem dX1_allPeople_0 : decode cX1_allPeople 0 = .ok (.aload_n 0, 1) := by decide +kernel
theorem dX1_allPeople_1 : decode cX1_allPeople 1 = .ok (.getfield 32, 3) := by decide +kernel
theorem dX1_allPeople_4 : decode cX1_allPeople 4 = .ok (.getfield 97, 3) := by decide +kernel
theorem dX1_allPeople_7 : decode cX1_allPeople 7 = .ok (.bipush 111, 2) := by decide +kernel
theorem dX1_allPeople_9 : decode cX1_allPeople 9 = .ok (.if_icmp .ne 7, 3) := by decide +kernel
theorem dX1_allPeople_12 : decode cX1_allPeople 12 = .ok (.iconst 0, 1) := by decide +kernel
theorem dX1_allPeople_13 : decode cX1_allPeople 13 = .ok (.goto 10, 3) := by decide +kernel
theorem dX1_allPeople_16 : decode cX1_allPeople 16 = .ok (.aload_n 0, 1) := by decide +kernel
theorem dX1_allPeople_17 : decode cX1_allPeople 17 = .ok (.getfield 32, 3) := by decide +kernel
theorem dX1_allPeople_20 : decode cX1_allPeople 20 = .ok (.getfield 101, 3) := by decide +kernel
theorem dX1_allPeople_23 : decode cX1_allPeople 23 = .ok (.istore_n 1, 1) := by decide +kernel
theorem dX1_allPeople_24 : decode cX1_allPeople 24 = .ok (.iconst 0, 1) := by decide +kernel
theorem dX1_allPeople_25 : decode cX1_allPeople 25 = .ok (.istore_n 2, 1) := by decide +kernel
theorem dX1_allPeople_26 : decode cX1_allPeople 26 = .ok (.iload_n 2, 1) := by decide +kernel
theorem dX1_allPeople_27 : decode cX1_allPeople 27 = .ok (.aload_n 0, 1) := by decide +kernel
theorem dX1_allPeople_28 : decode cX1_allPeople 28 = .ok (.getfield 62, 3) := by decide +kernel
theorem dX1_allPeople_31 : decode cX1_allPeople 31 = .ok (.if_icmp .gt 20, 3) := by decide +kernel
theorem dX1_allPeople_34 : decode cX1_allPeople 34 = .ok (.iload_n 1, 1) := by decide +kernel
theorem dX1_allPeople_35 : decode cX1_allPeople 35 = .ok (.aload_n 0, 1) := by decide +kernel
theorem dX1_allPeople_36 : decode cX1_allPeople 36 = .ok (.iload_n 2, 1) := by decide +kernel
theorem dX1_allPeople_37 : decode cX1_allPeople 37 = .ok (.invokevirtual 104, 3) := by decide +kernel
theorem dX1_allPeople_40 : decode cX1_allPeople 40 = .ok (.getfield 108, 3) := by decide +kernel
theorem dX1_allPeople_43 : decode cX1_allPeople 43 = .ok (.iadd, 1) := by decide +kernel
theorem dX1_allPeople_44 : decode cX1_allPeople 44 = .ok (.istore_n 1, 1) := by decide +kernel
theorem dX1_allPeople_45 : decode cX1_allPeople 45 = .ok (.iinc 2 1, 3) := by decide +kernel
theorem dX1_allPeople_48 : decode cX1_allPeople 48 = .ok (.goto (-22), 3) := by decide +kernel
theorem dX1_allPeople_51 : decode cX1_allPeople 51 = .ok (.iload_n 1, 1) := by decide +kernel
theorem dX1_allPeople_52 : decode cX1_allPeople 52 = .ok (.ireturn, 1) := by decide +kernel
theorem dX1_openWidths_0 : decode cX1_openWidths 0 = .ok (.iconst 0, 1) := by decide +kernel
theorem dX1_openWidths_1 : decode cX1_openWidths 1 = .ok (.istore_n 1, 1) := by decide +kernel
theorem dX1_openWidths_2 : decode cX1_openWidths 2 = .ok (.iconst 1, 1) := by decide +kernel
theorem dX1_openWidths_3 : decode cX1_openWidths 3 = .ok (.istore_n 2, 1) := by decide +kernel
theorem dX1_openWidths_4 : decode cX1_openWidths 4 = .ok (.iload_n 2, 1) := by decide +kernel
theorem dX1_openWidths_5 : decode cX1_openWidths 5 = .ok (.aload_n 0, 1) := by decide +kernel
theorem dX1_openWidths_6 : decode cX1_openWidths 6 = .ok (.getfield 62, 3) := by decide +kernel
theorem dX1_openWidths_9 : decode cX1_openWidths 9 = .ok (.if_icmp .gt 20, 3) := by decide +kernel
theorem dX1_openWidths_12 : decode cX1_openWidths 12 = .ok (.iload_n 1, 1) := by decide +kernel
theorem dX1_openWidths_13 : decode cX1_openWidths 13 = .ok (.aload_n 0, 1) := by decide +kernel
theorem dX1_openWidths_14 : decode cX1_openWidths 14 = .ok (.iload_n 2, 1) := by decide +kernel
theorem dX1_openWidths_15 : decode cX1_openWidths 15 = .ok (.invokevirtual 104, 3) := by decide +kernel
theorem dX1_openWidths_18 : decode cX1_openWidths 18 = .ok (.invokevirtual 111, 3) := by decide +kernel
theorem dX1_openWidths_21 : decode cX1_openWidths 21 = .ok (.iadd, 1) := by decide +kernel
theorem dX1_openWidths_22 : decode cX1_openWidths 22 = .ok (.istore_n 1, 1) := by decide +kernel
theorem dX1_openWidths_23 : decode cX1_openWidths 23 = .ok (.iinc 2 1, 3) := by decide +kernel
theorem dX1_openWidths_26 : decode cX1_openWidths 26 = .ok (.goto (-22), 3) := by decide +kernel
theorem dX1_openWidths_29 : decode cX1_openWidths 29 = .ok (.iload_n 1, 1) := by decide +kernel
theorem dX1_openWidths_30 : decode cX1_openWidths 30 = .ok (.ireturn, 1) := by decide +kernel
theorem dX1_spreadAir_0 : decode cX1_spreadAir 0 = .ok (.aload_n 0, 1) := by decide +kernel
theorem dX1_spreadAir_1 : decode cX1_spreadAir 1 = .ok (.getfield 36, 3) := by decide +kernel
theorem dX1_spreadAir_4 : decode cX1_spreadAir 4 = .ok (.istore_n 1, 1) := by decide +kernel
theorem dX1_spreadAir_5 : decode cX1_spreadAir 5 = .ok (.aload_n 0, 1) := by decide +kernel
theorem dX1_spreadAir_6 : decode cX1_spreadAir 6 = .ok (.invokevirtual 114, 3) := by decide +kernel
theorem dX1_spreadAir_9 : decode cX1_spreadAir 9 = .ok (.istore_n 2, 1) := by decide +kernel
theorem dX1_spreadAir_10 : decode cX1_spreadAir 10 = .ok (.iconst 1, 1) := by decide +kernel
theorem dX1_spreadAir_11 : decode cX1_spreadAir 11 = .ok (.istore_n 3, 1) := by decide +kernel
theorem dX1_spreadAir_12 : decode cX1_spreadAir 12 = .ok (.iload_n 3, 1) := by decide +kernel
theorem dX1_spreadAir_13 : decode cX1_spreadAir 13 = .ok (.aload_n 0, 1) := by decide +kernel
theorem dX1_spreadAir_14 : decode cX1_spreadAir 14 = .ok (.getfield 62, 3) := by decide +kernel
theorem dX1_spreadAir_17 : decode cX1_spreadAir 17 = .ok (.if_icmp .gt 47, 3) := by decide +kernel
theorem dX1_spreadAir_20 : decode cX1_spreadAir 20 = .ok (.aload_n 0, 1) := by decide +kernel
theorem dX1_spreadAir_21 : decode cX1_spreadAir 21 = .ok (.iload_n 3, 1) := by decide +kernel
theorem dX1_spreadAir_22 : decode cX1_spreadAir 22 = .ok (.invokevirtual 104, 3) := by decide +kernel
theorem dX1_spreadAir_25 : decode cX1_spreadAir 25 = .ok (.astore 4, 2) := by decide +kernel
theorem dX1_spreadAir_27 : decode cX1_spreadAir 27 = .ok (.aload 4, 2) := by decide +kernel
theorem dX1_spreadAir_29 : decode cX1_spreadAir 29 = .ok (.iload_n 1, 1) := by decide +kernel
theorem dX1_spreadAir_30 : decode cX1_spreadAir 30 = .ok (.aload 4, 2) := by decide +kernel
theorem dX1_spreadAir_32 : decode cX1_spreadAir 32 = .ok (.invokevirtual 111, 3) := by decide +kernel
theorem dX1_spreadAir_35 : decode cX1_spreadAir 35 = .ok (.iload_n 2, 1) := by decide +kernel
theorem dX1_spreadAir_36 : decode cX1_spreadAir 36 = .ok (.invokestatic 117, 3) := by decide +kernel
theorem dX1_spreadAir_39 : decode cX1_spreadAir 39 = .ok (.putfield 121, 3) := by decide +kernel
theorem dX1_spreadAir_42 : decode cX1_spreadAir 42 = .ok (.iload_n 1, 1) := by decide +kernel
theorem dX1_spreadAir_43 : decode cX1_spreadAir 43 = .ok (.aload 4, 2) := by decide +kernel
theorem dX1_spreadAir_45 : decode cX1_spreadAir 45 = .ok (.getfield 121, 3) := by decide +kernel
theorem dX1_spreadAir_48 : decode cX1_spreadAir 48 = .ok (.isub, 1) := by decide +kernel
theorem dX1_spreadAir_49 : decode cX1_spreadAir 49 = .ok (.istore_n 1, 1) := by decide +kernel
theorem dX1_spreadAir_50 : decode cX1_spreadAir 50 = .ok (.iload_n 2, 1) := by decide +kernel
theorem dX1_spreadAir_51 : decode cX1_spreadAir 51 = .ok (.aload 4, 2) := by decide +kernel
theorem dX1_spreadAir_53 : decode cX1_spreadAir 53 = .ok (.invokevirtual 111, 3) := by decide +kernel
theorem dX1_spreadAir_56 : decode cX1_spreadAir 56 = .ok (.isub, 1) := by decide +kernel
theorem dX1_spreadAir_57 : decode cX1_spreadAir 57 = .ok (.istore_n 2, 1) := by decide +kernel
theorem dX1_spreadAir_58 : decode cX1_spreadAir 58 = .ok (.iinc 3 1, 3) := by decide +kernel
theorem dX1_spreadAir_61 : decode cX1_spreadAir 61 = .ok (.goto (-49), 3) := by decide +kernel
theorem dX1_spreadAir_64 : decode cX1_spreadAir 64 = .ok (.return_, 1) := by decide +kernel
theorem dX1_followAir_0 : decode cX1_followAir 0 = .ok (.iconst 0, 1) := by decide +kernel
theorem dX1_followAir_1 : decode cX1_followAir 1 = .ok (.istore_n 1, 1) := by decide +kernel
theorem dX1_followAir_2 : decode cX1_followAir 2 = .ok (.iload_n 1, 1) := by decide +kernel
theorem dX1_followAir_3 : decode cX1_followAir 3 = .ok (.aload_n 0, 1) := by decide +kernel
theorem dX1_followAir_4 : decode cX1_followAir 4 = .ok (.getfield 62, 3) := by decide +kernel
theorem dX1_followAir_7 : decode cX1_followAir 7 = .ok (.if_icmp .gt 18, 3) := by decide +kernel
theorem dX1_followAir_10 : decode cX1_followAir 10 = .ok (.aload_n 0, 1) := by decide +kernel
theorem dX1_followAir_11 : decode cX1_followAir 11 = .ok (.iload_n 1, 1) := by decide +kernel
theorem dX1_followAir_12 : decode cX1_followAir 12 = .ok (.invokevirtual 104, 3) := by decide +kernel
theorem dX1_followAir_15 : decode cX1_followAir 15 = .ok (.iconst 0, 1) := by decide +kernel
theorem dX1_followAir_16 : decode cX1_followAir 16 = .ok (.putfield 124, 3) := by decide +kernel
theorem dX1_followAir_19 : decode cX1_followAir 19 = .ok (.iinc 1 1, 3) := by decide +kernel
theorem dX1_followAir_22 : decode cX1_followAir 22 = .ok (.goto (-20), 3) := by decide +kernel
theorem dX1_followAir_25 : decode cX1_followAir 25 = .ok (.aload_n 0, 1) := by decide +kernel
theorem dX1_followAir_26 : decode cX1_followAir 26 = .ok (.invokevirtual 114, 3) := by decide +kernel
theorem dX1_followAir_29 : decode cX1_followAir 29 = .ok (.istore_n 1, 1) := by decide +kernel
theorem dX1_followAir_30 : decode cX1_followAir 30 = .ok (.iconst 1, 1) := by decide +kernel
theorem dX1_followAir_31 : decode cX1_followAir 31 = .ok (.istore_n 2, 1) := by decide +kernel
theorem dX1_followAir_32 : decode cX1_followAir 32 = .ok (.iload_n 2, 1) := by decide +kernel
theorem dX1_followAir_33 : decode cX1_followAir 33 = .ok (.aload_n 0, 1) := by decide +kernel
theorem dX1_followAir_34 : decode cX1_followAir 34 = .ok (.getfield 36, 3) := by decide +kernel
theorem dX1_followAir_37 : decode cX1_followAir 37 = .ok (.if_icmp .gt 28, 3) := by decide +kernel
theorem dX1_followAir_40 : decode cX1_followAir 40 = .ok (.aload_n 0, 1) := by decide +kernel
theorem dX1_followAir_41 : decode cX1_followAir 41 = .ok (.aload_n 0, 1) := by decide +kernel
theorem dX1_followAir_42 : decode cX1_followAir 42 = .ok (.iload_n 2, 1) := by decide +kernel
theorem dX1_followAir_43 : decode cX1_followAir 43 = .ok (.iload_n 1, 1) := by decide +kernel
theorem dX1_followAir_44 : decode cX1_followAir 44 = .ok (.invokevirtual 127, 3) := by decide +kernel
theorem dX1_followAir_47 : decode cX1_followAir 47 = .ok (.invokevirtual 104, 3) := by decide +kernel
theorem dX1_followAir_50 : decode cX1_followAir 50 = .ok (.dup, 1) := by decide +kernel
theorem dX1_followAir_51 : decode cX1_followAir 51 = .ok (.getfield 124, 3) := by decide +kernel
theorem dX1_followAir_54 : decode cX1_followAir 54 = .ok (.iconst 1, 1) := by decide +kernel
theorem dX1_followAir_55 : decode cX1_followAir 55 = .ok (.iadd, 1) := by decide +kernel
theorem dX1_followAir_56 : decode cX1_followAir 56 = .ok (.putfield 124, 3) := by decide +kernel
theorem dX1_followAir_59 : decode cX1_followAir 59 = .ok (.iinc 2 1, 3) := by decide +kernel
theorem dX1_followAir_62 : decode cX1_followAir 62 = .ok (.goto (-30), 3) := by decide +kernel
theorem dX1_followAir_65 : decode cX1_followAir 65 = .ok (.return_, 1) := by decide +kernel
theorem dX1_galleryOf_0 : decode cX1_galleryOf 0 = .ok (.iload_n 1, 1) := by decide +kernel
theorem dX1_galleryOf_1 : decode cX1_galleryOf 1 = .ok (.istore_n 3, 1) := by decide +kernel
theorem dX1_galleryOf_2 : decode cX1_galleryOf 2 = .ok (.iload_n 2, 1) := by decide +kernel
theorem dX1_galleryOf_3 : decode cX1_galleryOf 3 = .ok (.istore 4, 2) := by decide +kernel
theorem dX1_galleryOf_5 : decode cX1_galleryOf 5 = .ok (.iconst 1, 1) := by decide +kernel
theorem dX1_galleryOf_6 : decode cX1_galleryOf 6 = .ok (.istore 5, 2) := by decide +kernel
theorem dX1_galleryOf_8 : decode cX1_galleryOf 8 = .ok (.iload 5, 2) := by decide +kernel
theorem dX1_galleryOf_10 : decode cX1_galleryOf 10 = .ok (.aload_n 0, 1) := by decide +kernel
theorem dX1_galleryOf_11 : decode cX1_galleryOf 11 = .ok (.getfield 62, 3) := by decide +kernel
theorem dX1_galleryOf_14 : decode cX1_galleryOf 14 = .ok (.if_icmp .gt 60, 3) := by decide +kernel
theorem dX1_galleryOf_17 : decode cX1_galleryOf 17 = .ok (.aload_n 0, 1) := by decide +kernel
theorem dX1_galleryOf_18 : decode cX1_galleryOf 18 = .ok (.iload 5, 2) := by decide +kernel
theorem dX1_galleryOf_20 : decode cX1_galleryOf 20 = .ok (.invokevirtual 104, 3) := by decide +kernel
theorem dX1_galleryOf_23 : decode cX1_galleryOf 23 = .ok (.invokevirtual 111, 3) := by decide +kernel
theorem dX1_galleryOf_26 : decode cX1_galleryOf 26 = .ok (.istore 6, 2) := by decide +kernel
theorem dX1_galleryOf_28 : decode cX1_galleryOf 28 = .ok (.iload_n 3, 1) := by decide +kernel
theorem dX1_galleryOf_29 : decode cX1_galleryOf 29 = .ok (.iload 6, 2) := by decide +kernel
theorem dX1_galleryOf_31 : decode cX1_galleryOf 31 = .ok (.iload 4, 2) := by decide +kernel
theorem dX1_galleryOf_33 : decode cX1_galleryOf 33 = .ok (.invokestatic 117, 3) := by decide +kernel
theorem dX1_galleryOf_36 : decode cX1_galleryOf 36 = .ok (.istore 7, 2) := by decide +kernel
theorem dX1_galleryOf_38 : decode cX1_galleryOf 38 = .ok (.iload 7, 2) := by decide +kernel
theorem dX1_galleryOf_40 : decode cX1_galleryOf 40 = .ok (.iload_n 3, 1) := by decide +kernel
theorem dX1_galleryOf_41 : decode cX1_galleryOf 41 = .ok (.iconst 1, 1) := by decide +kernel
theorem dX1_galleryOf_42 : decode cX1_galleryOf 42 = .ok (.isub, 1) := by decide +kernel
theorem dX1_galleryOf_43 : decode cX1_galleryOf 43 = .ok (.iload 6, 2) := by decide +kernel
theorem dX1_galleryOf_45 : decode cX1_galleryOf 45 = .ok (.iload 4, 2) := by decide +kernel
theorem dX1_galleryOf_47 : decode cX1_galleryOf 47 = .ok (.invokestatic 117, 3) := by decide +kernel
theorem dX1_galleryOf_50 : decode cX1_galleryOf 50 = .ok (.if_icmp .eq 6, 3) := by decide +kernel
theorem dX1_galleryOf_53 : decode cX1_galleryOf 53 = .ok (.iload 5, 2) := by decide +kernel
theorem dX1_galleryOf_55 : decode cX1_galleryOf 55 = .ok (.ireturn, 1) := by decide +kernel
theorem dX1_galleryOf_56 : decode cX1_galleryOf 56 = .ok (.iload_n 3, 1) := by decide +kernel
theorem dX1_galleryOf_57 : decode cX1_galleryOf 57 = .ok (.iload 7, 2) := by decide +kernel
theorem dX1_galleryOf_59 : decode cX1_galleryOf 59 = .ok (.isub, 1) := by decide +kernel
theorem dX1_galleryOf_60 : decode cX1_galleryOf 60 = .ok (.istore_n 3, 1) := by decide +kernel
theorem dX1_galleryOf_61 : decode cX1_galleryOf 61 = .ok (.iload 4, 2) := by decide +kernel
theorem dX1_galleryOf_63 : decode cX1_galleryOf 63 = .ok (.iload 6, 2) := by decide +kernel
theorem dX1_galleryOf_65 : decode cX1_galleryOf 65 = .ok (.isub, 1) := by decide +kernel
theorem dX1_galleryOf_66 : decode cX1_galleryOf 66 = .ok (.istore 4, 2) := by decide +kernel
theorem dX1_galleryOf_68 : decode cX1_galleryOf 68 = .ok (.iinc 5 1, 3) := by decide +kernel
theorem dX1_galleryOf_71 : decode cX1_galleryOf 71 = .ok (.goto (-63), 3) := by decide +kernel
theorem dX1_galleryOf_74 : decode cX1_galleryOf 74 = .ok (.iconst 0, 1) := by decide +kernel
theorem dX1_galleryOf_75 : decode cX1_galleryOf 75 = .ok (.ireturn, 1) := by decide +kernel
theorem dX1_intoGallery_0 : decode cX1_intoGallery 0 = .ok (.iload_n 2, 1) := by decide +kernel
theorem dX1_intoGallery_1 : decode cX1_intoGallery 1 = .ok (.ifCond .le 11, 3) := by decide +kernel
theorem dX1_intoGallery_4 : decode cX1_intoGallery 4 = .ok (.iload_n 0, 1) := by decide +kernel
theorem dX1_intoGallery_5 : decode cX1_intoGallery 5 = .ok (.iload_n 1, 1) := by decide +kernel
theorem dX1_intoGallery_6 : decode cX1_intoGallery 6 = .ok (.imul, 1) := by decide +kernel
theorem dX1_intoGallery_7 : decode cX1_intoGallery 7 = .ok (.iload_n 2, 1) := by decide +kernel
theorem dX1_intoGallery_8 : decode cX1_intoGallery 8 = .ok (.idiv, 1) := by decide +kernel
theorem dX1_intoGallery_9 : decode cX1_intoGallery 9 = .ok (.goto 4, 3) := by decide +kernel
theorem dX1_intoGallery_12 : decode cX1_intoGallery 12 = .ok (.iconst 0, 1) := by decide +kernel
theorem dX1_intoGallery_13 : decode cX1_intoGallery 13 = .ok (.ireturn, 1) := by decide +kernel
theorem dX1_letGasIn_0 : decode cX1_letGasIn 0 = .ok (.aload_n 1, 1) := by decide +kernel
theorem dX1_letGasIn_1 : decode cX1_letGasIn 1 = .ok (.dup, 1) := by decide +kernel
theorem dX1_letGasIn_2 : decode cX1_letGasIn 2 = .ok (.getfield 131, 3) := by decide +kernel
theorem dX1_letGasIn_5 : decode cX1_letGasIn 5 = .ok (.iload_n 2, 1) := by decide +kernel
theorem dX1_letGasIn_6 : decode cX1_letGasIn 6 = .ok (.iadd, 1) := by decide +kernel
theorem dX1_letGasIn_7 : decode cX1_letGasIn 7 = .ok (.putfield 131, 3) := by decide +kernel
theorem dX1_letGasIn_10 : decode cX1_letGasIn 10 = .ok (.aload_n 0, 1) := by decide +kernel
theorem dX1_letGasIn_11 : decode cX1_letGasIn 11 = .ok (.dup, 1) := by decide +kernel
theorem dX1_letGasIn_12 : decode cX1_letGasIn 12 = .ok (.getfield 68, 3) := by decide +kernel
theorem dX1_letGasIn_15 : decode cX1_letGasIn 15 = .ok (.iload_n 2, 1) := by decide +kernel
theorem dX1_letGasIn_16 : decode cX1_letGasIn 16 = .ok (.iadd, 1) := by decide +kernel
theorem dX1_letGasIn_17 : decode cX1_letGasIn 17 = .ok (.putfield 68, 3) := by decide +kernel
theorem dX1_letGasIn_20 : decode cX1_letGasIn 20 = .ok (.return_, 1) := by decide +kernel
theorem dX1_passMinute_0 : decode cX1_passMinute 0 = .ok (.iconst 1, 1) := by decide +kernel
theorem dX1_passMinute_1 : decode cX1_passMinute 1 = .ok (.istore_n 1, 1) := by decide +kernel
theorem dX1_passMinute_2 : decode cX1_passMinute 2 = .ok (.iload_n 1, 1) := by decide +kernel
theorem dX1_passMinute_3 : decode cX1_passMinute 3 = .ok (.aload_n 0, 1) := by decide +kernel
theorem dX1_passMinute_4 : decode cX1_passMinute 4 = .ok (.getfield 62, 3) := by decide +kernel
theorem dX1_passMinute_7 : decode cX1_passMinute 7 = .ok (.if_icmp .gt 18, 3) := by decide +kernel
theorem dX1_passMinute_10 : decode cX1_passMinute 10 = .ok (.aload_n 0, 1) := by decide +kernel
theorem dX1_passMinute_11 : decode cX1_passMinute 11 = .ok (.aload_n 0, 1) := by decide +kernel
theorem dX1_passMinute_12 : decode cX1_passMinute 12 = .ok (.iload_n 1, 1) := by decide +kernel
theorem dX1_passMinute_13 : decode cX1_passMinute 13 = .ok (.invokevirtual 104, 3) := by decide +kernel
theorem dX1_passMinute_16 : decode cX1_passMinute 16 = .ok (.invokevirtual 134, 3) := by decide +kernel
theorem dX1_passMinute_19 : decode cX1_passMinute 19 = .ok (.iinc 1 1, 3) := by decide +kernel
theorem dX1_passMinute_22 : decode cX1_passMinute 22 = .ok (.goto (-20), 3) := by decide +kernel
theorem dX1_passMinute_25 : decode cX1_passMinute 25 = .ok (.aload_n 0, 1) := by decide +kernel
theorem dX1_passMinute_26 : decode cX1_passMinute 26 = .ok (.getfield 32, 3) := by decide +kernel
theorem dX1_passMinute_29 : decode cX1_passMinute 29 = .ok (.invokevirtual 137, 3) := by decide +kernel
theorem dX1_passMinute_32 : decode cX1_passMinute 32 = .ok (.ifCond .ne 24, 3) := by decide +kernel
theorem dX1_passMinute_35 : decode cX1_passMinute 35 = .ok (.aload_n 0, 1) := by decide +kernel
theorem dX1_passMinute_36 : decode cX1_passMinute 36 = .ok (.invokevirtual 141, 3) := by decide +kernel
theorem dX1_passMinute_39 : decode cX1_passMinute 39 = .ok (.ifCond .ne 17, 3) := by decide +kernel
theorem dX1_passMinute_42 : decode cX1_passMinute 42 = .ok (.aload_n 0, 1) := by decide +kernel
theorem dX1_passMinute_43 : decode cX1_passMinute 43 = .ok (.iconst 0, 1) := by decide +kernel
theorem dX1_passMinute_44 : decode cX1_passMinute 44 = .ok (.invokevirtual 144, 3) := by decide +kernel
theorem dX1_passMinute_47 : decode cX1_passMinute 47 = .ok (.ifCond .ne 9, 3) := by decide +kernel
theorem dX1_passMinute_50 : decode cX1_passMinute 50 = .ok (.aload_n 0, 1) := by decide +kernel
theorem dX1_passMinute_51 : decode cX1_passMinute 51 = .ok (.iconst 1, 1) := by decide +kernel
theorem dX1_passMinute_52 : decode cX1_passMinute 52 = .ok (.invokevirtual 144, 3) := by decide +kernel
theorem dX1_passMinute_55 : decode cX1_passMinute 55 = .ok (.pop, 1) := by decide +kernel
theorem dX1_passMinute_56 : decode cX1_passMinute 56 = .ok (.aload_n 0, 1) := by decide +kernel
theorem dX1_passMinute_57 : decode cX1_passMinute 57 = .ok (.getfield 32, 3) := by decide +kernel
theorem dX1_passMinute_60 : decode cX1_passMinute 60 = .ok (.invokevirtual 137, 3) := by decide +kernel
theorem dX1_passMinute_63 : decode cX1_passMinute 63 = .ok (.ifCond .eq 30, 3) := by decide +kernel
theorem dX1_passMinute_66 : decode cX1_passMinute 66 = .ok (.aload_n 0, 1) := by decide +kernel
theorem dX1_passMinute_67 : decode cX1_passMinute 67 = .ok (.getfield 32, 3) := by decide +kernel
theorem dX1_passMinute_70 : decode cX1_passMinute 70 = .ok (.dup, 1) := by decide +kernel
theorem dX1_passMinute_71 : decode cX1_passMinute 71 = .ok (.getfield 148, 3) := by decide +kernel
theorem dX1_passMinute_74 : decode cX1_passMinute 74 = .ok (.iconst 1, 1) := by decide +kernel
theorem dX1_passMinute_75 : decode cX1_passMinute 75 = .ok (.isub, 1) := by decide +kernel
theorem dX1_passMinute_76 : decode cX1_passMinute 76 = .ok (.putfield 148, 3) := by decide +kernel
theorem dX1_passMinute_79 : decode cX1_passMinute 79 = .ok (.aload_n 0, 1) := by decide +kernel
theorem dX1_passMinute_80 : decode cX1_passMinute 80 = .ok (.getfield 32, 3) := by decide +kernel
theorem dX1_passMinute_83 : decode cX1_passMinute 83 = .ok (.getfield 148, 3) := by decide +kernel
theorem dX1_passMinute_86 : decode cX1_passMinute 86 = .ok (.ifCond .gt 7, 3) := by decide +kernel
theorem dX1_passMinute_89 : decode cX1_passMinute 89 = .ok (.aload_n 0, 1) := by decide +kernel
theorem dX1_passMinute_90 : decode cX1_passMinute 90 = .ok (.invokevirtual 151, 3) := by decide +kernel
theorem dX1_passMinute_93 : decode cX1_passMinute 93 = .ok (.aload_n 0, 1) := by decide +kernel
theorem dX1_passMinute_94 : decode cX1_passMinute 94 = .ok (.dup, 1) := by decide +kernel
theorem dX1_passMinute_95 : decode cX1_passMinute 95 = .ok (.getfield 65, 3) := by decide +kernel
theorem dX1_passMinute_98 : decode cX1_passMinute 98 = .ok (.iconst 1, 1) := by decide +kernel
theorem dX1_passMinute_99 : decode cX1_passMinute 99 = .ok (.iadd, 1) := by decide +kernel
theorem dX1_passMinute_100 : decode cX1_passMinute 100 = .ok (.putfield 65, 3) := by decide +kernel
theorem dX1_passMinute_103 : decode cX1_passMinute 103 = .ok (.return_, 1) := by decide +kernel
theorem dX1_moveGas_0 : decode cX1_moveGas 0 = .ok (.aload_n 0, 1) := by decide +kernel
theorem dX1_moveGas_1 : decode cX1_moveGas 1 = .ok (.aload_n 1, 1) := by decide +kernel
theorem dX1_moveGas_2 : decode cX1_moveGas 2 = .ok (.aload_n 1, 1) := by decide +kernel
theorem dX1_moveGas_3 : decode cX1_moveGas 3 = .ok (.getfield 154, 3) := by decide +kernel
theorem dX1_moveGas_6 : decode cX1_moveGas 6 = .ok (.invokevirtual 157, 3) := by decide +kernel
theorem dX1_moveGas_9 : decode cX1_moveGas 9 = .ok (.aload_n 1, 1) := by decide +kernel
theorem dX1_moveGas_10 : decode cX1_moveGas 10 = .ok (.invokevirtual 161, 3) := by decide +kernel
theorem dX1_moveGas_13 : decode cX1_moveGas 13 = .ok (.istore_n 2, 1) := by decide +kernel
theorem dX1_moveGas_14 : decode cX1_moveGas 14 = .ok (.aload_n 1, 1) := by decide +kernel
theorem dX1_moveGas_15 : decode cX1_moveGas 15 = .ok (.dup, 1) := by decide +kernel
theorem dX1_moveGas_16 : decode cX1_moveGas 16 = .ok (.getfield 131, 3) := by decide +kernel
theorem dX1_moveGas_19 : decode cX1_moveGas 19 = .ok (.iload_n 2, 1) := by decide +kernel
theorem dX1_moveGas_20 : decode cX1_moveGas 20 = .ok (.isub, 1) := by decide +kernel
theorem dX1_moveGas_21 : decode cX1_moveGas 21 = .ok (.putfield 131, 3) := by decide +kernel
theorem dX1_moveGas_24 : decode cX1_moveGas 24 = .ok (.aload_n 0, 1) := by decide +kernel
theorem dX1_moveGas_25 : decode cX1_moveGas 25 = .ok (.dup, 1) := by decide +kernel
theorem dX1_moveGas_26 : decode cX1_moveGas 26 = .ok (.getfield 71, 3) := by decide +kernel
theorem dX1_moveGas_29 : decode cX1_moveGas 29 = .ok (.iload_n 2, 1) := by decide +kernel
theorem dX1_moveGas_30 : decode cX1_moveGas 30 = .ok (.iadd, 1) := by decide +kernel
theorem dX1_moveGas_31 : decode cX1_moveGas 31 = .ok (.putfield 71, 3) := by decide +kernel
theorem dX1_moveGas_34 : decode cX1_moveGas 34 = .ok (.return_, 1) := by decide +kernel
theorem dX1_startFlight_0 : decode cX1_startFlight 0 = .ok (.iconst 0, 1) := by decide +kernel
theorem dX1_startFlight_1 : decode cX1_startFlight 1 = .ok (.istore_n 1, 1) := by decide +kernel
theorem dX1_startFlight_2 : decode cX1_startFlight 2 = .ok (.iconst 1, 1) := by decide +kernel
theorem dX1_startFlight_3 : decode cX1_startFlight 3 = .ok (.istore_n 2, 1) := by decide +kernel
theorem dX1_startFlight_4 : decode cX1_startFlight 4 = .ok (.iload_n 2, 1) := by decide +kernel
theorem dX1_startFlight_5 : decode cX1_startFlight 5 = .ok (.aload_n 0, 1) := by decide +kernel
theorem dX1_startFlight_6 : decode cX1_startFlight 6 = .ok (.getfield 62, 3) := by decide +kernel
theorem dX1_startFlight_9 : decode cX1_startFlight 9 = .ok (.if_icmp .gt 63, 3) := by decide +kernel
theorem dX1_startFlight_12 : decode cX1_startFlight 12 = .ok (.aload_n 0, 1) := by decide +kernel
theorem dX1_startFlight_13 : decode cX1_startFlight 13 = .ok (.iload_n 2, 1) := by decide +kernel
theorem dX1_startFlight_14 : decode cX1_startFlight 14 = .ok (.invokevirtual 104, 3) := by decide +kernel
theorem dX1_startFlight_17 : decode cX1_startFlight 17 = .ok (.astore_n 3, 1) := by decide +kernel
theorem dX1_startFlight_18 : decode cX1_startFlight 18 = .ok (.aload_n 3, 1) := by decide +kernel
theorem dX1_startFlight_19 : decode cX1_startFlight 19 = .ok (.getfield 108, 3) := by decide +kernel
theorem dX1_startFlight_22 : decode cX1_startFlight 22 = .ok (.ifCond .le 15, 3) := by decide +kernel
theorem dX1_startFlight_25 : decode cX1_startFlight 25 = .ok (.aload_n 0, 1) := by decide +kernel
theorem dX1_startFlight_26 : decode cX1_startFlight 26 = .ok (.aload_n 3, 1) := by decide +kernel
theorem dX1_startFlight_27 : decode cX1_startFlight 27 = .ok (.invokevirtual 164, 3) := by decide +kernel
theorem dX1_startFlight_30 : decode cX1_startFlight 30 = .ok (.ifCond .eq 7, 3) := by decide +kernel
theorem dX1_startFlight_33 : decode cX1_startFlight 33 = .ok (.iconst 1, 1) := by decide +kernel
theorem dX1_startFlight_34 : decode cX1_startFlight 34 = .ok (.goto 4, 3) := by decide +kernel
theorem dX1_startFlight_37 : decode cX1_startFlight 37 = .ok (.iconst 0, 1) := by decide +kernel
theorem dX1_startFlight_38 : decode cX1_startFlight 38 = .ok (.istore 4, 2) := by decide +kernel
theorem dX1_startFlight_40 : decode cX1_startFlight 40 = .ok (.iload 4, 2) := by decide +kernel
theorem dX1_startFlight_42 : decode cX1_startFlight 42 = .ok (.ifCond .eq 24, 3) := by decide +kernel
theorem dX1_startFlight_45 : decode cX1_startFlight 45 = .ok (.iload_n 1, 1) := by decide +kernel
theorem dX1_startFlight_46 : decode cX1_startFlight 46 = .ok (.ifCond .eq 18, 3) := by decide +kernel
theorem dX1_startFlight_49 : decode cX1_startFlight 49 = .ok (.aload_n 3, 1) := by decide +kernel
theorem dX1_startFlight_50 : decode cX1_startFlight 50 = .ok (.invokevirtual 83, 3) := by decide +kernel
theorem dX1_startFlight_53 : decode cX1_startFlight 53 = .ok (.aload_n 0, 1) := by decide +kernel
theorem dX1_startFlight_54 : decode cX1_startFlight 54 = .ok (.iload_n 1, 1) := by decide +kernel
theorem dX1_startFlight_55 : decode cX1_startFlight 55 = .ok (.invokevirtual 104, 3) := by decide +kernel
theorem dX1_startFlight_58 : decode cX1_startFlight 58 = .ok (.invokevirtual 83, 3) := by decide +kernel
theorem dX1_startFlight_61 : decode cX1_startFlight 61 = .ok (.if_icmp .le 5, 3) := by decide +kernel
theorem dX1_startFlight_64 : decode cX1_startFlight 64 = .ok (.iload_n 2, 1) := by decide +kernel
theorem dX1_startFlight_65 : decode cX1_startFlight 65 = .ok (.istore_n 1, 1) := by decide +kernel
theorem dX1_startFlight_66 : decode cX1_startFlight 66 = .ok (.iinc 2 1, 3) := by decide +kernel
theorem dX1_startFlight_69 : decode cX1_startFlight 69 = .ok (.goto (-65), 3) := by decide +kernel
theorem dX1_startFlight_72 : decode cX1_startFlight 72 = .ok (.iload_n 1, 1) := by decide +kernel
theorem dX1_startFlight_73 : decode cX1_startFlight 73 = .ok (.ifCond .ne 5, 3) := by decide +kernel
theorem dX1_startFlight_76 : decode cX1_startFlight 76 = .ok (.iconst 0, 1) := by decide +kernel
theorem dX1_startFlight_77 : decode cX1_startFlight 77 = .ok (.ireturn, 1) := by decide +kernel
theorem dX1_startFlight_78 : decode cX1_startFlight 78 = .ok (.aload_n 0, 1) := by decide +kernel
theorem dX1_startFlight_79 : decode cX1_startFlight 79 = .ok (.bipush 102, 2) := by decide +kernel
theorem dX1_startFlight_81 : decode cX1_startFlight 81 = .ok (.iload_n 1, 1) := by decide +kernel
theorem dX1_startFlight_82 : decode cX1_startFlight 82 = .ok (.aload_n 0, 1) := by decide +kernel
theorem dX1_startFlight_83 : decode cX1_startFlight 83 = .ok (.iload_n 1, 1) := by decide +kernel
theorem dX1_startFlight_84 : decode cX1_startFlight 84 = .ok (.invokevirtual 104, 3) := by decide +kernel
theorem dX1_startFlight_87 : decode cX1_startFlight 87 = .ok (.getfield 108, 3) := by decide +kernel
theorem dX1_startFlight_90 : decode cX1_startFlight 90 = .ok (.bipush 12, 2) := by decide +kernel
theorem dX1_startFlight_92 : decode cX1_startFlight 92 = .ok (.invokestatic 168, 3) := by decide +kernel
theorem dX1_startFlight_95 : decode cX1_startFlight 95 = .ok (.iconst (-1), 1) := by decide +kernel
theorem dX1_startFlight_96 : decode cX1_startFlight 96 = .ok (.invokevirtual 173, 3) := by decide +kernel
theorem dX1_startFlight_99 : decode cX1_startFlight 99 = .ok (.iconst 1, 1) := by decide +kernel
theorem dX1_startFlight_100 : decode cX1_startFlight 100 = .ok (.ireturn, 1) := by decide +kernel
theorem dX1_startRequest_0 : decode cX1_startRequest 0 = .ok (.iconst 0, 1) := by decide +kernel
theorem dX1_startRequest_1 : decode cX1_startRequest 1 = .ok (.istore_n 2, 1) := by decide +kernel
theorem dX1_startRequest_2 : decode cX1_startRequest 2 = .ok (.iload_n 2, 1) := by decide +kernel
theorem dX1_startRequest_3 : decode cX1_startRequest 3 = .ok (.bipush 8, 2) := by decide +kernel
theorem dX1_startRequest_5 : decode cX1_startRequest 5 = .ok (.if_icmp .ge 77, 3) := by decide +kernel
theorem dX1_startRequest_8 : decode cX1_startRequest 8 = .ok (.aload_n 0, 1) := by decide +kernel
theorem dX1_startRequest_9 : decode cX1_startRequest 9 = .ok (.getfield 25, 3) := by decide +kernel
theorem dX1_startRequest_12 : decode cX1_startRequest 12 = .ok (.iload_n 1, 1) := by decide +kernel
theorem dX1_startRequest_13 : decode cX1_startRequest 13 = .ok (.invokevirtual 177, 3) := by decide +kernel
theorem dX1_startRequest_16 : decode cX1_startRequest 16 = .ok (.astore_n 3, 1) := by decide +kernel
theorem dX1_startRequest_17 : decode cX1_startRequest 17 = .ok (.aload_n 3, 1) := by decide +kernel
theorem dX1_startRequest_18 : decode cX1_startRequest 18 = .ok (.ifnonnull 5, 3) := by decide +kernel
theorem dX1_startRequest_21 : decode cX1_startRequest 21 = .ok (.iconst 0, 1) := by decide +kernel
theorem dX1_startRequest_22 : decode cX1_startRequest 22 = .ok (.ireturn, 1) := by decide +kernel
theorem dX1_startRequest_23 : decode cX1_startRequest 23 = .ok (.aload_n 0, 1) := by decide +kernel
theorem dX1_startRequest_24 : decode cX1_startRequest 24 = .ok (.getfield 25, 3) := by decide +kernel
theorem dX1_startRequest_27 : decode cX1_startRequest 27 = .ok (.aload_n 3, 1) := by decide +kernel
theorem dX1_startRequest_28 : decode cX1_startRequest 28 = .ok (.getfield 181, 3) := by decide +kernel
theorem dX1_startRequest_31 : decode cX1_startRequest 31 = .ok (.invokevirtual 186, 3) := by decide +kernel
theorem dX1_startRequest_34 : decode cX1_startRequest 34 = .ok (.aload_n 0, 1) := by decide +kernel
theorem dX1_startRequest_35 : decode cX1_startRequest 35 = .ok (.aload_n 3, 1) := by decide +kernel
theorem dX1_startRequest_36 : decode cX1_startRequest 36 = .ok (.invokevirtual 190, 3) := by decide +kernel
theorem dX1_startRequest_39 : decode cX1_startRequest 39 = .ok (.istore 4, 2) := by decide +kernel
theorem dX1_startRequest_41 : decode cX1_startRequest 41 = .ok (.iload 4, 2) := by decide +kernel
theorem dX1_startRequest_43 : decode cX1_startRequest 43 = .ok (.ifCond .le 23, 3) := by decide +kernel
theorem dX1_startRequest_46 : decode cX1_startRequest 46 = .ok (.aload_n 0, 1) := by decide +kernel
theorem dX1_startRequest_47 : decode cX1_startRequest 47 = .ok (.aload_n 3, 1) := by decide +kernel
theorem dX1_startRequest_48 : decode cX1_startRequest 48 = .ok (.getfield 194, 3) := by decide +kernel
theorem dX1_startRequest_51 : decode cX1_startRequest 51 = .ok (.aload_n 3, 1) := by decide +kernel
theorem dX1_startRequest_52 : decode cX1_startRequest 52 = .ok (.getfield 195, 3) := by decide +kernel
theorem dX1_startRequest_55 : decode cX1_startRequest 55 = .ok (.iload 4, 2) := by decide +kernel
theorem dX1_startRequest_57 : decode cX1_startRequest 57 = .ok (.aload_n 3, 1) := by decide +kernel
theorem dX1_startRequest_58 : decode cX1_startRequest 58 = .ok (.getfield 181, 3) := by decide +kernel
theorem dX1_startRequest_61 : decode cX1_startRequest 61 = .ok (.invokevirtual 173, 3) := by decide +kernel
theorem dX1_startRequest_64 : decode cX1_startRequest 64 = .ok (.iconst 1, 1) := by decide +kernel
theorem dX1_startRequest_65 : decode cX1_startRequest 65 = .ok (.ireturn, 1) := by decide +kernel
theorem dX1_startRequest_66 : decode cX1_startRequest 66 = .ok (.aload_n 0, 1) := by decide +kernel
theorem dX1_startRequest_67 : decode cX1_startRequest 67 = .ok (.dup, 1) := by decide +kernel
theorem dX1_startRequest_68 : decode cX1_startRequest 68 = .ok (.getfield 80, 3) := by decide +kernel
theorem dX1_startRequest_71 : decode cX1_startRequest 71 = .ok (.iconst 1, 1) := by decide +kernel
theorem dX1_startRequest_72 : decode cX1_startRequest 72 = .ok (.iadd, 1) := by decide +kernel
theorem dX1_startRequest_73 : decode cX1_startRequest 73 = .ok (.putfield 80, 3) := by decide +kernel
theorem dX1_startRequest_76 : decode cX1_startRequest 76 = .ok (.iinc 2 1, 3) := by decide +kernel
theorem dX1_startRequest_79 : decode cX1_startRequest 79 = .ok (.goto (-77), 3) := by decide +kernel
theorem dX1_startRequest_82 : decode cX1_startRequest 82 = .ok (.iconst 0, 1) := by decide +kernel
theorem dX1_startRequest_83 : decode cX1_startRequest 83 = .ok (.ireturn, 1) := by decide +kernel
theorem dX1_loadOf_0 : decode cX1_loadOf 0 = .ok (.aload_n 0, 1) := by decide +kernel
theorem dX1_loadOf_1 : decode cX1_loadOf 1 = .ok (.aload_n 1, 1) := by decide +kernel
theorem dX1_loadOf_2 : decode cX1_loadOf 2 = .ok (.getfield 195, 3) := by decide +kernel
theorem dX1_loadOf_5 : decode cX1_loadOf 5 = .ok (.invokevirtual 104, 3) := by decide +kernel
theorem dX1_loadOf_8 : decode cX1_loadOf 8 = .ok (.astore_n 2, 1) := by decide +kernel
theorem dX1_loadOf_9 : decode cX1_loadOf 9 = .ok (.aload_n 1, 1) := by decide +kernel
theorem dX1_loadOf_10 : decode cX1_loadOf 10 = .ok (.getfield 194, 3) := by decide +kernel
theorem dX1_loadOf_13 : decode cX1_loadOf 13 = .ok (.bipush 111, 2) := by decide +kernel
theorem dX1_loadOf_15 : decode cX1_loadOf 15 = .ok (.if_icmp .ne 15, 3) := by decide +kernel
theorem dX1_loadOf_18 : decode cX1_loadOf 18 = .ok (.aload_n 2, 1) := by decide +kernel
theorem dX1_loadOf_19 : decode cX1_loadOf 19 = .ok (.getfield 198, 3) := by decide +kernel
theorem dX1_loadOf_22 : decode cX1_loadOf 22 = .ok (.aload_n 1, 1) := by decide +kernel
theorem dX1_loadOf_23 : decode cX1_loadOf 23 = .ok (.getfield 201, 3) := by decide +kernel
theorem dX1_loadOf_26 : decode cX1_loadOf 26 = .ok (.invokestatic 168, 3) := by decide +kernel
theorem dX1_loadOf_29 : decode cX1_loadOf 29 = .ok (.ireturn, 1) := by decide +kernel
theorem dX1_loadOf_30 : decode cX1_loadOf 30 = .ok (.aload_n 1, 1) := by decide +kernel
theorem dX1_loadOf_31 : decode cX1_loadOf 31 = .ok (.getfield 194, 3) := by decide +kernel
theorem dX1_loadOf_34 : decode cX1_loadOf 34 = .ok (.bipush 117, 2) := by decide +kernel
theorem dX1_loadOf_36 : decode cX1_loadOf 36 = .ok (.if_icmp .ne 15, 3) := by decide +kernel
theorem dX1_loadOf_39 : decode cX1_loadOf 39 = .ok (.aload_n 2, 1) := by decide +kernel
theorem dX1_loadOf_40 : decode cX1_loadOf 40 = .ok (.getfield 108, 3) := by decide +kernel
theorem dX1_loadOf_43 : decode cX1_loadOf 43 = .ok (.aload_n 1, 1) := by decide +kernel
theorem dX1_loadOf_44 : decode cX1_loadOf 44 = .ok (.getfield 201, 3) := by decide +kernel
theorem dX1_loadOf_47 : decode cX1_loadOf 47 = .ok (.invokestatic 168, 3) := by decide +kernel
theorem dX1_loadOf_50 : decode cX1_loadOf 50 = .ok (.ireturn, 1) := by decide +kernel
theorem dX1_loadOf_51 : decode cX1_loadOf 51 = .ok (.aload_n 0, 1) := by decide +kernel
theorem dX1_loadOf_52 : decode cX1_loadOf 52 = .ok (.aload_n 2, 1) := by decide +kernel
theorem dX1_loadOf_53 : decode cX1_loadOf 53 = .ok (.invokevirtual 164, 3) := by decide +kernel
theorem dX1_loadOf_56 : decode cX1_loadOf 56 = .ok (.ifCond .ne 11, 3) := by decide +kernel
theorem dX1_loadOf_59 : decode cX1_loadOf 59 = .ok (.aload_n 0, 1) := by decide +kernel
theorem dX1_loadOf_60 : decode cX1_loadOf 60 = .ok (.aload_n 2, 1) := by decide +kernel
theorem dX1_loadOf_61 : decode cX1_loadOf 61 = .ok (.invokevirtual 204, 3) := by decide +kernel
theorem dX1_loadOf_64 : decode cX1_loadOf 64 = .ok (.ifCond .eq 5, 3) := by decide +kernel
theorem dX1_loadOf_67 : decode cX1_loadOf 67 = .ok (.iconst 0, 1) := by decide +kernel
theorem dX1_loadOf_68 : decode cX1_loadOf 68 = .ok (.ireturn, 1) := by decide +kernel
theorem dX1_loadOf_69 : decode cX1_loadOf 69 = .ok (.aload_n 0, 1) := by decide +kernel
theorem dX1_loadOf_70 : decode cX1_loadOf 70 = .ok (.getfield 12, 3) := by decide +kernel
theorem dX1_loadOf_73 : decode cX1_loadOf 73 = .ok (.getfield 108, 3) := by decide +kernel
theorem dX1_loadOf_76 : decode cX1_loadOf 76 = .ok (.aload_n 1, 1) := by decide +kernel
theorem dX1_loadOf_77 : decode cX1_loadOf 77 = .ok (.getfield 201, 3) := by decide +kernel
theorem dX1_loadOf_80 : decode cX1_loadOf 80 = .ok (.invokestatic 168, 3) := by decide +kernel
theorem dX1_loadOf_83 : decode cX1_loadOf 83 = .ok (.ireturn, 1) := by decide +kernel
theorem dX1_beginTrip_0 : decode cX1_beginTrip 0 = .ok (.iload_n 1, 1) := by decide +kernel
theorem dX1_beginTrip_1 : decode cX1_beginTrip 1 = .ok (.bipush 100, 2) := by decide +kernel
theorem dX1_beginTrip_3 : decode cX1_beginTrip 3 = .ok (.if_icmp .ne 10, 3) := by decide +kernel
theorem dX1_beginTrip_6 : decode cX1_beginTrip 6 = .ok (.aload_n 0, 1) := by decide +kernel
theorem dX1_beginTrip_7 : decode cX1_beginTrip 7 = .ok (.getfield 12, 3) := by decide +kernel
theorem dX1_beginTrip_10 : decode cX1_beginTrip 10 = .ok (.goto 8, 3) := by decide +kernel
theorem dX1_beginTrip_13 : decode cX1_beginTrip 13 = .ok (.aload_n 0, 1) := by decide +kernel
theorem dX1_beginTrip_14 : decode cX1_beginTrip 14 = .ok (.iload_n 2, 1) := by decide +kernel
theorem dX1_beginTrip_15 : decode cX1_beginTrip 15 = .ok (.invokevirtual 104, 3) := by decide +kernel
theorem dX1_beginTrip_18 : decode cX1_beginTrip 18 = .ok (.astore 5, 2) := by decide +kernel
theorem dX1_beginTrip_20 : decode cX1_beginTrip 20 = .ok (.iload_n 1, 1) := by decide +kernel
theorem dX1_beginTrip_21 : decode cX1_beginTrip 21 = .ok (.bipush 100, 2) := by decide +kernel
theorem dX1_beginTrip_23 : decode cX1_beginTrip 23 = .ok (.if_icmp .ne 11, 3) := by decide +kernel
theorem dX1_beginTrip_26 : decode cX1_beginTrip 26 = .ok (.aload_n 0, 1) := by decide +kernel
theorem dX1_beginTrip_27 : decode cX1_beginTrip 27 = .ok (.iload_n 2, 1) := by decide +kernel
theorem dX1_beginTrip_28 : decode cX1_beginTrip 28 = .ok (.invokevirtual 104, 3) := by decide +kernel
theorem dX1_beginTrip_31 : decode cX1_beginTrip 31 = .ok (.goto 7, 3) := by decide +kernel
theorem dX1_beginTrip_34 : decode cX1_beginTrip 34 = .ok (.aload_n 0, 1) := by decide +kernel
theorem dX1_beginTrip_35 : decode cX1_beginTrip 35 = .ok (.getfield 12, 3) := by decide +kernel
theorem dX1_beginTrip_38 : decode cX1_beginTrip 38 = .ok (.astore 6, 2) := by decide +kernel
theorem dX1_beginTrip_40 : decode cX1_beginTrip 40 = .ok (.iconst 1, 1) := by decide +kernel
theorem dX1_beginTrip_41 : decode cX1_beginTrip 41 = .ok (.aload_n 0, 1) := by decide +kernel
theorem dX1_beginTrip_42 : decode cX1_beginTrip 42 = .ok (.aload_n 0, 1) := by decide +kernel
theorem dX1_beginTrip_43 : decode cX1_beginTrip 43 = .ok (.aload_n 0, 1) := by decide +kernel
theorem dX1_beginTrip_44 : decode cX1_beginTrip 44 = .ok (.getfield 46, 3) := by decide +kernel
theorem dX1_beginTrip_47 : decode cX1_beginTrip 47 = .ok (.invokevirtual 104, 3) := by decide +kernel
theorem dX1_beginTrip_50 : decode cX1_beginTrip 50 = .ok (.aload 5, 2) := by decide +kernel
theorem dX1_beginTrip_52 : decode cX1_beginTrip 52 = .ok (.invokevirtual 207, 3) := by decide +kernel
theorem dX1_beginTrip_55 : decode cX1_beginTrip 55 = .ok (.iadd, 1) := by decide +kernel
theorem dX1_beginTrip_56 : decode cX1_beginTrip 56 = .ok (.aload_n 0, 1) := by decide +kernel
theorem dX1_beginTrip_57 : decode cX1_beginTrip 57 = .ok (.aload 5, 2) := by decide +kernel
theorem dX1_beginTrip_59 : decode cX1_beginTrip 59 = .ok (.aload 6, 2) := by decide +kernel
theorem dX1_beginTrip_61 : decode cX1_beginTrip 61 = .ok (.invokevirtual 207, 3) := by decide +kernel
theorem dX1_beginTrip_64 : decode cX1_beginTrip 64 = .ok (.iadd, 1) := by decide +kernel
theorem dX1_beginTrip_65 : decode cX1_beginTrip 65 = .ok (.istore 7, 2) := by decide +kernel
theorem dX1_beginTrip_67 : decode cX1_beginTrip 67 = .ok (.aload 5, 2) := by decide +kernel
theorem dX1_beginTrip_69 : decode cX1_beginTrip 69 = .ok (.iload_n 1, 1) := by decide +kernel
theorem dX1_beginTrip_70 : decode cX1_beginTrip 70 = .ok (.iload_n 3, 1) := by decide +kernel
theorem dX1_beginTrip_71 : decode cX1_beginTrip 71 = .ok (.ineg, 1) := by decide +kernel
theorem dX1_beginTrip_72 : decode cX1_beginTrip 72 = .ok (.invokestatic 211, 3) := by decide +kernel
theorem dX1_beginTrip_75 : decode cX1_beginTrip 75 = .ok (.aload_n 0, 1) := by decide +kernel
theorem dX1_beginTrip_76 : decode cX1_beginTrip 76 = .ok (.getfield 32, 3) := by decide +kernel
theorem dX1_beginTrip_79 : decode cX1_beginTrip 79 = .ok (.iload_n 1, 1) := by decide +kernel
theorem dX1_beginTrip_80 : decode cX1_beginTrip 80 = .ok (.iload_n 2, 1) := by decide +kernel
theorem dX1_beginTrip_81 : decode cX1_beginTrip 81 = .ok (.iload_n 3, 1) := by decide +kernel
theorem dX1_beginTrip_82 : decode cX1_beginTrip 82 = .ok (.iload 7, 2) := by decide +kernel
theorem dX1_beginTrip_84 : decode cX1_beginTrip 84 = .ok (.iload 4, 2) := by decide +kernel
theorem dX1_beginTrip_86 : decode cX1_beginTrip 86 = .ok (.invokevirtual 215, 3) := by decide +kernel
theorem dX1_beginTrip_89 : decode cX1_beginTrip 89 = .ok (.return_, 1) := by decide +kernel
theorem dX1_endTrip_0 : decode cX1_endTrip 0 = .ok (.aload_n 0, 1) := by decide +kernel
theorem dX1_endTrip_1 : decode cX1_endTrip 1 = .ok (.aload_n 0, 1) := by decide +kernel
theorem dX1_endTrip_2 : decode cX1_endTrip 2 = .ok (.getfield 32, 3) := by decide +kernel
theorem dX1_endTrip_5 : decode cX1_endTrip 5 = .ok (.getfield 97, 3) := by decide +kernel
theorem dX1_endTrip_8 : decode cX1_endTrip 8 = .ok (.bipush 100, 2) := by decide +kernel
theorem dX1_endTrip_10 : decode cX1_endTrip 10 = .ok (.if_icmp .ne 13, 3) := by decide +kernel
theorem dX1_endTrip_13 : decode cX1_endTrip 13 = .ok (.aload_n 0, 1) := by decide +kernel
theorem dX1_endTrip_14 : decode cX1_endTrip 14 = .ok (.getfield 32, 3) := by decide +kernel
theorem dX1_endTrip_17 : decode cX1_endTrip 17 = .ok (.getfield 219, 3) := by decide +kernel
theorem dX1_endTrip_20 : decode cX1_endTrip 20 = .ok (.goto 4, 3) := by decide +kernel
theorem dX1_endTrip_23 : decode cX1_endTrip 23 = .ok (.iconst 0, 1) := by decide +kernel
theorem dX1_endTrip_24 : decode cX1_endTrip 24 = .ok (.putfield 46, 3) := by decide +kernel
theorem dX1_endTrip_27 : decode cX1_endTrip 27 = .ok (.aload_n 0, 1) := by decide +kernel
theorem dX1_endTrip_28 : decode cX1_endTrip 28 = .ok (.aload_n 0, 1) := by decide +kernel
theorem dX1_endTrip_29 : decode cX1_endTrip 29 = .ok (.getfield 46, 3) := by decide +kernel
theorem dX1_endTrip_32 : decode cX1_endTrip 32 = .ok (.invokevirtual 104, 3) := by decide +kernel
theorem dX1_endTrip_35 : decode cX1_endTrip 35 = .ok (.aload_n 0, 1) := by decide +kernel
theorem dX1_endTrip_36 : decode cX1_endTrip 36 = .ok (.getfield 32, 3) := by decide +kernel
theorem dX1_endTrip_39 : decode cX1_endTrip 39 = .ok (.getfield 97, 3) := by decide +kernel
theorem dX1_endTrip_42 : decode cX1_endTrip 42 = .ok (.aload_n 0, 1) := by decide +kernel
theorem dX1_endTrip_43 : decode cX1_endTrip 43 = .ok (.getfield 32, 3) := by decide +kernel
theorem dX1_endTrip_46 : decode cX1_endTrip 46 = .ok (.getfield 101, 3) := by decide +kernel
theorem dX1_endTrip_49 : decode cX1_endTrip 49 = .ok (.invokestatic 211, 3) := by decide +kernel
theorem dX1_endTrip_52 : decode cX1_endTrip 52 = .ok (.aload_n 0, 1) := by decide +kernel
theorem dX1_endTrip_53 : decode cX1_endTrip 53 = .ok (.aload_n 0, 1) := by decide +kernel
theorem dX1_endTrip_54 : decode cX1_endTrip 54 = .ok (.getfield 32, 3) := by decide +kernel
theorem dX1_endTrip_57 : decode cX1_endTrip 57 = .ok (.getfield 220, 3) := by decide +kernel
theorem dX1_endTrip_60 : decode cX1_endTrip 60 = .ok (.putfield 49, 3) := by decide +kernel
theorem dX1_endTrip_63 : decode cX1_endTrip 63 = .ok (.aload_n 0, 1) := by decide +kernel
theorem dX1_endTrip_64 : decode cX1_endTrip 64 = .ok (.dup, 1) := by decide +kernel
theorem dX1_endTrip_65 : decode cX1_endTrip 65 = .ok (.getfield 77, 3) := by decide +kernel
theorem dX1_endTrip_68 : decode cX1_endTrip 68 = .ok (.iconst 1, 1) := by decide +kernel
theorem dX1_endTrip_69 : decode cX1_endTrip 69 = .ok (.iadd, 1) := by decide +kernel
theorem dX1_endTrip_70 : decode cX1_endTrip 70 = .ok (.putfield 77, 3) := by decide +kernel
theorem dX1_endTrip_73 : decode cX1_endTrip 73 = .ok (.aload_n 0, 1) := by decide +kernel
theorem dX1_endTrip_74 : decode cX1_endTrip 74 = .ok (.getfield 32, 3) := by decide +kernel
theorem dX1_endTrip_77 : decode cX1_endTrip 77 = .ok (.invokevirtual 223, 3) := by decide +kernel
theorem dX1_endTrip_80 : decode cX1_endTrip 80 = .ok (.return_, 1) := by decide +kernel
theorem dX1_carry_0 : decode cX1_carry 0 = .ok (.iload_n 1, 1) := by decide +kernel
theorem dX1_carry_1 : decode cX1_carry 1 = .ok (.bipush 111, 2) := by decide +kernel
theorem dX1_carry_3 : decode cX1_carry 3 = .ok (.if_icmp .ne 16, 3) := by decide +kernel
theorem dX1_carry_6 : decode cX1_carry 6 = .ok (.aload_n 0, 1) := by decide +kernel
theorem dX1_carry_7 : decode cX1_carry 7 = .ok (.dup, 1) := by decide +kernel
theorem dX1_carry_8 : decode cX1_carry 8 = .ok (.getfield 198, 3) := by decide +kernel
theorem dX1_carry_11 : decode cX1_carry 11 = .ok (.iload_n 2, 1) := by decide +kernel
theorem dX1_carry_12 : decode cX1_carry 12 = .ok (.iadd, 1) := by decide +kernel
theorem dX1_carry_13 : decode cX1_carry 13 = .ok (.putfield 198, 3) := by decide +kernel
theorem dX1_carry_16 : decode cX1_carry 16 = .ok (.goto 13, 3) := by decide +kernel
theorem dX1_carry_19 : decode cX1_carry 19 = .ok (.aload_n 0, 1) := by decide +kernel
theorem dX1_carry_20 : decode cX1_carry 20 = .ok (.dup, 1) := by decide +kernel
theorem dX1_carry_21 : decode cX1_carry 21 = .ok (.getfield 108, 3) := by decide +kernel
theorem dX1_carry_24 : decode cX1_carry 24 = .ok (.iload_n 2, 1) := by decide +kernel
theorem dX1_carry_25 : decode cX1_carry 25 = .ok (.iadd, 1) := by decide +kernel
theorem dX1_carry_26 : decode cX1_carry 26 = .ok (.putfield 108, 3) := by decide +kernel
theorem dX1_carry_29 : decode cX1_carry 29 = .ok (.return_, 1) := by decide +kernel
theorem dX1_way_0 : decode cX1_way 0 = .ok (.aload_n 1, 1) := by decide +kernel
theorem dX1_way_1 : decode cX1_way 1 = .ok (.getfield 226, 3) := by decide +kernel
theorem dX1_way_4 : decode cX1_way 4 = .ok (.aload_n 2, 1) := by decide +kernel
theorem dX1_way_5 : decode cX1_way 5 = .ok (.getfield 226, 3) := by decide +kernel
theorem dX1_way_8 : decode cX1_way 8 = .ok (.isub, 1) := by decide +kernel
theorem dX1_way_9 : decode cX1_way 9 = .ok (.invokestatic 229, 3) := by decide +kernel
theorem dX1_way_12 : decode cX1_way 12 = .ok (.istore_n 3, 1) := by decide +kernel
theorem dX1_way_13 : decode cX1_way 13 = .ok (.aload_n 0, 1) := by decide +kernel
theorem dX1_way_14 : decode cX1_way 14 = .ok (.getfield 43, 3) := by decide +kernel
theorem dX1_way_17 : decode cX1_way 17 = .ok (.ifCond .le 19, 3) := by decide +kernel
theorem dX1_way_20 : decode cX1_way 20 = .ok (.iload_n 3, 1) := by decide +kernel
theorem dX1_way_21 : decode cX1_way 21 = .ok (.aload_n 0, 1) := by decide +kernel
theorem dX1_way_22 : decode cX1_way 22 = .ok (.getfield 43, 3) := by decide +kernel
theorem dX1_way_25 : decode cX1_way 25 = .ok (.iadd, 1) := by decide +kernel
theorem dX1_way_26 : decode cX1_way 26 = .ok (.iconst 1, 1) := by decide +kernel
theorem dX1_way_27 : decode cX1_way 27 = .ok (.isub, 1) := by decide +kernel
theorem dX1_way_28 : decode cX1_way 28 = .ok (.aload_n 0, 1) := by decide +kernel
theorem dX1_way_29 : decode cX1_way 29 = .ok (.getfield 43, 3) := by decide +kernel
theorem dX1_way_32 : decode cX1_way 32 = .ok (.idiv, 1) := by decide +kernel
theorem dX1_way_33 : decode cX1_way 33 = .ok (.goto 4, 3) := by decide +kernel
theorem dX1_way_36 : decode cX1_way 36 = .ok (.iconst 0, 1) := by decide +kernel
theorem dX1_way_37 : decode cX1_way 37 = .ok (.ireturn, 1) := by decide +kernel
theorem dX1_passToAlarm_0 : decode cX1_passToAlarm 0 = .ok (.iconst 0, 1) := by decide +kernel
theorem dX1_passToAlarm_1 : decode cX1_passToAlarm 1 = .ok (.istore_n 2, 1) := by decide +kernel
theorem dX1_passToAlarm_2 : decode cX1_passToAlarm 2 = .ok (.iload_n 2, 1) := by decide +kernel
theorem dX1_passToAlarm_3 : decode cX1_passToAlarm 3 = .ok (.sipush 500, 3) := by decide +kernel
theorem dX1_passToAlarm_6 : decode cX1_passToAlarm 6 = .ok (.if_icmp .gt 24, 3) := by decide +kernel
theorem dX1_passToAlarm_9 : decode cX1_passToAlarm 9 = .ok (.aload_n 0, 1) := by decide +kernel
theorem dX1_passToAlarm_10 : decode cX1_passToAlarm 10 = .ok (.aload_n 1, 1) := by decide +kernel
theorem dX1_passToAlarm_11 : decode cX1_passToAlarm 11 = .ok (.invokevirtual 164, 3) := by decide +kernel
theorem dX1_passToAlarm_14 : decode cX1_passToAlarm 14 = .ok (.ifCond .eq 5, 3) := by decide +kernel
theorem dX1_passToAlarm_17 : decode cX1_passToAlarm 17 = .ok (.iload_n 2, 1) := by decide +kernel
theorem dX1_passToAlarm_18 : decode cX1_passToAlarm 18 = .ok (.ireturn, 1) := by decide +kernel
theorem dX1_passToAlarm_19 : decode cX1_passToAlarm 19 = .ok (.aload_n 0, 1) := by decide +kernel
theorem dX1_passToAlarm_20 : decode cX1_passToAlarm 20 = .ok (.aload_n 1, 1) := by decide +kernel
theorem dX1_passToAlarm_21 : decode cX1_passToAlarm 21 = .ok (.invokevirtual 134, 3) := by decide +kernel
theorem dX1_passToAlarm_24 : decode cX1_passToAlarm 24 = .ok (.iinc 2 1, 3) := by decide +kernel
theorem dX1_passToAlarm_27 : decode cX1_passToAlarm 27 = .ok (.goto (-25), 3) := by decide +kernel
theorem dX1_passToAlarm_30 : decode cX1_passToAlarm 30 = .ok (.iconst (-1), 1) := by decide +kernel
theorem dX1_passToAlarm_31 : decode cX1_passToAlarm 31 = .ok (.ireturn, 1) := by decide +kernel
theorem dX1_passToEndOf_0 : decode cX1_passToEndOf 0 = .ok (.iconst 1, 1) := by decide +kernel
theorem dX1_passToEndOf_1 : decode cX1_passToEndOf 1 = .ok (.istore_n 2, 1) := by decide +kernel
theorem dX1_passToEndOf_2 : decode cX1_passToEndOf 2 = .ok (.iload_n 2, 1) := by decide +kernel
theorem dX1_passToEndOf_3 : decode cX1_passToEndOf 3 = .ok (.sipush 500, 3) := by decide +kernel
theorem dX1_passToEndOf_6 : decode cX1_passToEndOf 6 = .ok (.if_icmp .gt 31, 3) := by decide +kernel
theorem dX1_passToEndOf_9 : decode cX1_passToEndOf 9 = .ok (.aload_n 0, 1) := by decide +kernel
theorem dX1_passToEndOf_10 : decode cX1_passToEndOf 10 = .ok (.iload_n 1, 1) := by decide +kernel
theorem dX1_passToEndOf_11 : decode cX1_passToEndOf 11 = .ok (.invokevirtual 233, 3) := by decide +kernel
theorem dX1_passToEndOf_14 : decode cX1_passToEndOf 14 = .ok (.ifCond .eq 23, 3) := by decide +kernel
theorem dX1_passToEndOf_17 : decode cX1_passToEndOf 17 = .ok (.aload_n 0, 1) := by decide +kernel
theorem dX1_passToEndOf_18 : decode cX1_passToEndOf 18 = .ok (.invokevirtual 236, 3) := by decide +kernel
theorem dX1_passToEndOf_21 : decode cX1_passToEndOf 21 = .ok (.aload_n 0, 1) := by decide +kernel
theorem dX1_passToEndOf_22 : decode cX1_passToEndOf 22 = .ok (.getfield 49, 3) := by decide +kernel
theorem dX1_passToEndOf_25 : decode cX1_passToEndOf 25 = .ok (.iload_n 1, 1) := by decide +kernel
theorem dX1_passToEndOf_26 : decode cX1_passToEndOf 26 = .ok (.if_icmp .ne 5, 3) := by decide +kernel
theorem dX1_passToEndOf_29 : decode cX1_passToEndOf 29 = .ok (.iload_n 2, 1) := by decide +kernel
theorem dX1_passToEndOf_30 : decode cX1_passToEndOf 30 = .ok (.ireturn, 1) := by decide +kernel
theorem dX1_passToEndOf_31 : decode cX1_passToEndOf 31 = .ok (.iinc 2 1, 3) := by decide +kernel
theorem dX1_passToEndOf_34 : decode cX1_passToEndOf 34 = .ok (.goto (-32), 3) := by decide +kernel
theorem dX1_passToEndOf_37 : decode cX1_passToEndOf 37 = .ok (.iconst (-1), 1) := by decide +kernel
theorem dX1_passToEndOf_38 : decode cX1_passToEndOf 38 = .ok (.ireturn, 1) := by decide +kernel
theorem dX2_set_0 : decode cX2_set 0 = .ok (.aload_n 0, 1) := by decide +kernel
theorem dX2_set_1 : decode cX2_set 1 = .ok (.iload_n 1, 1) := by decide +kernel
theorem dX2_set_2 : decode cX2_set 2 = .ok (.putfield 7, 3) := by decide +kernel
theorem dX2_set_5 : decode cX2_set 5 = .ok (.aload_n 0, 1) := by decide +kernel
theorem dX2_set_6 : decode cX2_set 6 = .ok (.iload_n 2, 1) := by decide +kernel
theorem dX2_set_7 : decode cX2_set 7 = .ok (.putfield 13, 3) := by decide +kernel
theorem dX2_set_10 : decode cX2_set 10 = .ok (.aload_n 0, 1) := by decide +kernel
theorem dX2_set_11 : decode cX2_set 11 = .ok (.iload_n 3, 1) := by decide +kernel
theorem dX2_set_12 : decode cX2_set 12 = .ok (.putfield 17, 3) := by decide +kernel
theorem dX2_set_15 : decode cX2_set 15 = .ok (.aload_n 0, 1) := by decide +kernel
theorem dX2_set_16 : decode cX2_set 16 = .ok (.iload 4, 2) := by decide +kernel
theorem dX2_set_18 : decode cX2_set 18 = .ok (.putfield 20, 3) := by decide +kernel
theorem dX2_set_21 : decode cX2_set 21 = .ok (.return_, 1) := by decide +kernel
theorem dX3_set_0 : decode cX3_set 0 = .ok (.aload_n 0, 1) := by decide +kernel
theorem dX3_set_1 : decode cX3_set 1 = .ok (.iload_n 1, 1) := by decide +kernel
theorem dX3_set_2 : decode cX3_set 2 = .ok (.putfield 9, 3) := by decide +kernel
theorem dX3_set_5 : decode cX3_set 5 = .ok (.aload_n 0, 1) := by decide +kernel
theorem dX3_set_6 : decode cX3_set 6 = .ok (.iload_n 2, 1) := by decide +kernel
theorem dX3_set_7 : decode cX3_set 7 = .ok (.putfield 19, 3) := by decide +kernel
theorem dX3_set_10 : decode cX3_set 10 = .ok (.aload_n 0, 1) := by decide +kernel
theorem dX3_set_11 : decode cX3_set 11 = .ok (.iload_n 3, 1) := by decide +kernel
theorem dX3_set_12 : decode cX3_set 12 = .ok (.putfield 22, 3) := by decide +kernel
theorem dX3_set_15 : decode cX3_set 15 = .ok (.aload_n 0, 1) := by decide +kernel
theorem dX3_set_16 : decode cX3_set 16 = .ok (.iload 4, 2) := by decide +kernel
theorem dX3_set_18 : decode cX3_set 18 = .ok (.putfield 25, 3) := by decide +kernel
theorem dX3_set_21 : decode cX3_set 21 = .ok (.aload_n 0, 1) := by decide +kernel
theorem dX3_set_22 : decode cX3_set 22 = .ok (.iload 5, 2) := by decide +kernel
theorem dX3_set_24 : decode cX3_set 24 = .ok (.putfield 15, 3) := by decide +kernel
theorem dX3_set_27 : decode cX3_set 27 = .ok (.return_, 1) := by decide +kernel
theorem dX3_copyFrom_0 : decode cX3_copyFrom 0 = .ok (.aload_n 0, 1) := by decide +kernel
theorem dX3_copyFrom_1 : decode cX3_copyFrom 1 = .ok (.aload_n 1, 1) := by decide +kernel
theorem dX3_copyFrom_2 : decode cX3_copyFrom 2 = .ok (.getfield 9, 3) := by decide +kernel
theorem dX3_copyFrom_5 : decode cX3_copyFrom 5 = .ok (.aload_n 1, 1) := by decide +kernel
theorem dX3_copyFrom_6 : decode cX3_copyFrom 6 = .ok (.getfield 19, 3) := by decide +kernel
theorem dX3_copyFrom_9 : decode cX3_copyFrom 9 = .ok (.aload_n 1, 1) := by decide +kernel
theorem dX3_copyFrom_10 : decode cX3_copyFrom 10 = .ok (.getfield 22, 3) := by decide +kernel
theorem dX3_copyFrom_13 : decode cX3_copyFrom 13 = .ok (.aload_n 1, 1) := by decide +kernel
theorem dX3_copyFrom_14 : decode cX3_copyFrom 14 = .ok (.getfield 25, 3) := by decide +kernel
theorem dX3_copyFrom_17 : decode cX3_copyFrom 17 = .ok (.aload_n 1, 1) := by decide +kernel
theorem dX3_copyFrom_18 : decode cX3_copyFrom 18 = .ok (.getfield 15, 3) := by decide +kernel
theorem dX3_copyFrom_21 : decode cX3_copyFrom 21 = .ok (.invokevirtual 28, 3) := by decide +kernel
theorem dX3_copyFrom_24 : decode cX3_copyFrom 24 = .ok (.return_, 1) := by decide +kernel
theorem dX3_clear_0 : decode cX3_clear 0 = .ok (.aload_n 0, 1) := by decide +kernel
theorem dX3_clear_1 : decode cX3_clear 1 = .ok (.bipush 45, 2) := by decide +kernel
theorem dX3_clear_3 : decode cX3_clear 3 = .ok (.iconst 0, 1) := by decide +kernel
theorem dX3_clear_4 : decode cX3_clear 4 = .ok (.iconst 0, 1) := by decide +kernel
theorem dX3_clear_5 : decode cX3_clear 5 = .ok (.iconst 0, 1) := by decide +kernel
theorem dX3_clear_6 : decode cX3_clear 6 = .ok (.iconst (-1), 1) := by decide +kernel
theorem dX3_clear_7 : decode cX3_clear 7 = .ok (.invokevirtual 28, 3) := by decide +kernel
theorem dX3_clear_10 : decode cX3_clear 10 = .ok (.return_, 1) := by decide +kernel
theorem dX3_isOn_0 : decode cX3_isOn 0 = .ok (.aload_n 0, 1) := by decide +kernel
theorem dX3_isOn_1 : decode cX3_isOn 1 = .ok (.getfield 9, 3) := by decide +kernel
theorem dX3_isOn_4 : decode cX3_isOn 4 = .ok (.bipush 45, 2) := by decide +kernel
theorem dX3_isOn_6 : decode cX3_isOn 6 = .ok (.if_icmp .eq 7, 3) := by decide +kernel
theorem dX3_isOn_9 : decode cX3_isOn 9 = .ok (.iconst 1, 1) := by decide +kernel
theorem dX3_isOn_10 : decode cX3_isOn 10 = .ok (.goto 4, 3) := by decide +kernel
theorem dX3_isOn_13 : decode cX3_isOn 13 = .ok (.iconst 0, 1) := by decide +kernel
theorem dX3_isOn_14 : decode cX3_isOn 14 = .ok (.ireturn, 1) := by decide +kernel
theorem dX3_isTo_0 : decode cX3_isTo 0 = .ok (.aload_n 0, 1) := by decide +kernel
theorem dX3_isTo_1 : decode cX3_isTo 1 = .ok (.invokevirtual 32, 3) := by decide +kernel
theorem dX3_isTo_4 : decode cX3_isTo 4 = .ok (.ifCond .eq 15, 3) := by decide +kernel
theorem dX3_isTo_7 : decode cX3_isTo 7 = .ok (.aload_n 0, 1) := by decide +kernel
theorem dX3_isTo_8 : decode cX3_isTo 8 = .ok (.getfield 19, 3) := by decide +kernel
theorem dX3_isTo_11 : decode cX3_isTo 11 = .ok (.iload_n 1, 1) := by decide +kernel
theorem dX3_isTo_12 : decode cX3_isTo 12 = .ok (.if_icmp .ne 7, 3) := by decide +kernel
theorem dX3_isTo_15 : decode cX3_isTo 15 = .ok (.iconst 1, 1) := by decide +kernel
theorem dX3_isTo_16 : decode cX3_isTo 16 = .ok (.goto 4, 3) := by decide +kernel
theorem dX3_isTo_19 : decode cX3_isTo 19 = .ok (.iconst 0, 1) := by decide +kernel
theorem dX3_isTo_20 : decode cX3_isTo 20 = .ok (.ireturn, 1) := by decide +kernel
theorem dX3_isFor_0 : decode cX3_isFor 0 = .ok (.aload_n 0, 1) := by decide +kernel
theorem dX3_isFor_1 : decode cX3_isFor 1 = .ok (.invokevirtual 32, 3) := by decide +kernel
theorem dX3_isFor_4 : decode cX3_isFor 4 = .ok (.ifCond .eq 23, 3) := by decide +kernel
theorem dX3_isFor_7 : decode cX3_isFor 7 = .ok (.aload_n 0, 1) := by decide +kernel
theorem dX3_isFor_8 : decode cX3_isFor 8 = .ok (.getfield 15, 3) := by decide +kernel
theorem dX3_isFor_11 : decode cX3_isFor 11 = .ok (.iconst (-1), 1) := by decide +kernel
theorem dX3_isFor_12 : decode cX3_isFor 12 = .ok (.if_icmp .eq 15, 3) := by decide +kernel
theorem dX3_isFor_15 : decode cX3_isFor 15 = .ok (.aload_n 0, 1) := by decide +kernel
theorem dX3_isFor_16 : decode cX3_isFor 16 = .ok (.getfield 15, 3) := by decide +kernel
theorem dX3_isFor_19 : decode cX3_isFor 19 = .ok (.iload_n 1, 1) := by decide +kernel
theorem dX3_isFor_20 : decode cX3_isFor 20 = .ok (.if_icmp .ne 7, 3) := by decide +kernel
theorem dX3_isFor_23 : decode cX3_isFor 23 = .ok (.iconst 1, 1) := by decide +kernel
theorem dX3_isFor_24 : decode cX3_isFor 24 = .ok (.goto 4, 3) := by decide +kernel
theorem dX3_isFor_27 : decode cX3_isFor 27 = .ok (.iconst 0, 1) := by decide +kernel
theorem dX3_isFor_28 : decode cX3_isFor 28 = .ok (.ireturn, 1) := by decide +kernel
theorem dX4_copyFrom_0 : decode cX4_copyFrom 0 = .ok (.aload_n 0, 1) := by decide +kernel
theorem dX4_copyFrom_1 : decode cX4_copyFrom 1 = .ok (.aload_n 1, 1) := by decide +kernel
theorem dX4_copyFrom_2 : decode cX4_copyFrom 2 = .ok (.getfield 18, 3) := by decide +kernel
theorem dX4_copyFrom_5 : decode cX4_copyFrom 5 = .ok (.putfield 18, 3) := by decide +kernel
theorem dX4_copyFrom_8 : decode cX4_copyFrom 8 = .ok (.iconst 0, 1) := by decide +kernel
theorem dX4_copyFrom_9 : decode cX4_copyFrom 9 = .ok (.istore_n 2, 1) := by decide +kernel
theorem dX4_copyFrom_10 : decode cX4_copyFrom 10 = .ok (.iload_n 2, 1) := by decide +kernel
theorem dX4_copyFrom_11 : decode cX4_copyFrom 11 = .ok (.aload_n 0, 1) := by decide +kernel
theorem dX4_copyFrom_12 : decode cX4_copyFrom 12 = .ok (.getfield 11, 3) := by decide +kernel
theorem dX4_copyFrom_15 : decode cX4_copyFrom 15 = .ok (.arraylength, 1) := by decide +kernel
theorem dX4_copyFrom_16 : decode cX4_copyFrom 16 = .ok (.if_icmp .ge 50, 3) := by decide +kernel
theorem dX4_copyFrom_19 : decode cX4_copyFrom 19 = .ok (.iload_n 2, 1) := by decide +kernel
theorem dX4_copyFrom_20 : decode cX4_copyFrom 20 = .ok (.aload_n 1, 1) := by decide +kernel
theorem dX4_copyFrom_21 : decode cX4_copyFrom 21 = .ok (.getfield 11, 3) := by decide +kernel
theorem dX4_copyFrom_24 : decode cX4_copyFrom 24 = .ok (.arraylength, 1) := by decide +kernel
theorem dX4_copyFrom_25 : decode cX4_copyFrom 25 = .ok (.if_icmp .ge 41, 3) := by decide +kernel
theorem dX4_copyFrom_28 : decode cX4_copyFrom 28 = .ok (.aload_n 1, 1) := by decide +kernel
theorem dX4_copyFrom_29 : decode cX4_copyFrom 29 = .ok (.getfield 11, 3) := by decide +kernel
theorem dX4_copyFrom_32 : decode cX4_copyFrom 32 = .ok (.iload_n 2, 1) := by decide +kernel
theorem dX4_copyFrom_33 : decode cX4_copyFrom 33 = .ok (.aaload, 1) := by decide +kernel
theorem dX4_copyFrom_34 : decode cX4_copyFrom 34 = .ok (.astore_n 3, 1) := by decide +kernel
theorem dX4_copyFrom_35 : decode cX4_copyFrom 35 = .ok (.aload_n 0, 1) := by decide +kernel
theorem dX4_copyFrom_36 : decode cX4_copyFrom 36 = .ok (.getfield 11, 3) := by decide +kernel
theorem dX4_copyFrom_39 : decode cX4_copyFrom 39 = .ok (.iload_n 2, 1) := by decide +kernel
theorem dX4_copyFrom_40 : decode cX4_copyFrom 40 = .ok (.aaload, 1) := by decide +kernel
theorem dX4_copyFrom_41 : decode cX4_copyFrom 41 = .ok (.aload_n 3, 1) := by decide +kernel
theorem dX4_copyFrom_42 : decode cX4_copyFrom 42 = .ok (.getfield 22, 3) := by decide +kernel
theorem dX4_copyFrom_45 : decode cX4_copyFrom 45 = .ok (.aload_n 3, 1) := by decide +kernel
theorem dX4_copyFrom_46 : decode cX4_copyFrom 46 = .ok (.getfield 25, 3) := by decide +kernel
theorem dX4_copyFrom_49 : decode cX4_copyFrom 49 = .ok (.aload_n 3, 1) := by decide +kernel
theorem dX4_copyFrom_50 : decode cX4_copyFrom 50 = .ok (.getfield 29, 3) := by decide +kernel
theorem dX4_copyFrom_53 : decode cX4_copyFrom 53 = .ok (.aload_n 3, 1) := by decide +kernel
theorem dX4_copyFrom_54 : decode cX4_copyFrom 54 = .ok (.getfield 32, 3) := by decide +kernel
theorem dX4_copyFrom_57 : decode cX4_copyFrom 57 = .ok (.invokevirtual 35, 3) := by decide +kernel
theorem dX4_copyFrom_60 : decode cX4_copyFrom 60 = .ok (.iinc 2 1, 3) := by decide +kernel
theorem dX4_copyFrom_63 : decode cX4_copyFrom 63 = .ok (.goto (-53), 3) := by decide +kernel
theorem dX4_copyFrom_66 : decode cX4_copyFrom 66 = .ok (.return_, 1) := by decide +kernel
theorem dX4_add_0 : decode cX4_add 0 = .ok (.aload_n 0, 1) := by decide +kernel
theorem dX4_add_1 : decode cX4_add 1 = .ok (.getfield 18, 3) := by decide +kernel
theorem dX4_add_4 : decode cX4_add 4 = .ok (.ifCond .lt 42, 3) := by decide +kernel
theorem dX4_add_7 : decode cX4_add 7 = .ok (.aload_n 0, 1) := by decide +kernel
theorem dX4_add_8 : decode cX4_add 8 = .ok (.getfield 18, 3) := by decide +kernel
theorem dX4_add_11 : decode cX4_add 11 = .ok (.aload_n 0, 1) := by decide +kernel
theorem dX4_add_12 : decode cX4_add 12 = .ok (.getfield 11, 3) := by decide +kernel
theorem dX4_add_15 : decode cX4_add 15 = .ok (.arraylength, 1) := by decide +kernel
theorem dX4_add_16 : decode cX4_add 16 = .ok (.if_icmp .ge 30, 3) := by decide +kernel
theorem dX4_add_19 : decode cX4_add 19 = .ok (.aload_n 0, 1) := by decide +kernel
theorem dX4_add_20 : decode cX4_add 20 = .ok (.getfield 11, 3) := by decide +kernel
theorem dX4_add_23 : decode cX4_add 23 = .ok (.aload_n 0, 1) := by decide +kernel
theorem dX4_add_24 : decode cX4_add 24 = .ok (.getfield 18, 3) := by decide +kernel
theorem dX4_add_27 : decode cX4_add 27 = .ok (.aaload, 1) := by decide +kernel
theorem dX4_add_28 : decode cX4_add 28 = .ok (.iload_n 1, 1) := by decide +kernel
theorem dX4_add_29 : decode cX4_add 29 = .ok (.iload_n 2, 1) := by decide +kernel
theorem dX4_add_30 : decode cX4_add 30 = .ok (.iload_n 3, 1) := by decide +kernel
theorem dX4_add_31 : decode cX4_add 31 = .ok (.iload 4, 2) := by decide +kernel
theorem dX4_add_33 : decode cX4_add 33 = .ok (.invokevirtual 35, 3) := by decide +kernel
theorem dX4_add_36 : decode cX4_add 36 = .ok (.aload_n 0, 1) := by decide +kernel
theorem dX4_add_37 : decode cX4_add 37 = .ok (.dup, 1) := by decide +kernel
theorem dX4_add_38 : decode cX4_add 38 = .ok (.getfield 18, 3) := by decide +kernel
theorem dX4_add_41 : decode cX4_add 41 = .ok (.iconst 1, 1) := by decide +kernel
theorem dX4_add_42 : decode cX4_add 42 = .ok (.iadd, 1) := by decide +kernel
theorem dX4_add_43 : decode cX4_add 43 = .ok (.putfield 18, 3) := by decide +kernel
theorem dX4_add_46 : decode cX4_add 46 = .ok (.return_, 1) := by decide +kernel
theorem dX4_numberAt_0 : decode cX4_numberAt 0 = .ok (.iload_n 1, 1) := by decide +kernel
theorem dX4_numberAt_1 : decode cX4_numberAt 1 = .ok (.ifCond .lt 24, 3) := by decide +kernel
theorem dX4_numberAt_4 : decode cX4_numberAt 4 = .ok (.iload_n 1, 1) := by decide +kernel
theorem dX4_numberAt_5 : decode cX4_numberAt 5 = .ok (.aload_n 0, 1) := by decide +kernel
theorem dX4_numberAt_6 : decode cX4_numberAt 6 = .ok (.getfield 11, 3) := by decide +kernel
theorem dX4_numberAt_9 : decode cX4_numberAt 9 = .ok (.arraylength, 1) := by decide +kernel
theorem dX4_numberAt_10 : decode cX4_numberAt 10 = .ok (.if_icmp .ge 15, 3) := by decide +kernel
theorem dX4_numberAt_13 : decode cX4_numberAt 13 = .ok (.aload_n 0, 1) := by decide +kernel
theorem dX4_numberAt_14 : decode cX4_numberAt 14 = .ok (.getfield 11, 3) := by decide +kernel
theorem dX4_numberAt_17 : decode cX4_numberAt 17 = .ok (.iload_n 1, 1) := by decide +kernel
theorem dX4_numberAt_18 : decode cX4_numberAt 18 = .ok (.aaload, 1) := by decide +kernel
theorem dX4_numberAt_19 : decode cX4_numberAt 19 = .ok (.getfield 22, 3) := by decide +kernel
theorem dX4_numberAt_22 : decode cX4_numberAt 22 = .ok (.goto 4, 3) := by decide +kernel
theorem dX4_numberAt_25 : decode cX4_numberAt 25 = .ok (.iconst (-1), 1) := by decide +kernel
theorem dX4_numberAt_26 : decode cX4_numberAt 26 = .ok (.ireturn, 1) := by decide +kernel
theorem dX4_holds_0 : decode cX4_holds 0 = .ok (.aload_n 0, 1) := by decide +kernel
theorem dX4_holds_1 : decode cX4_holds 1 = .ok (.iload_n 1, 1) := by decide +kernel
theorem dX4_holds_2 : decode cX4_holds 2 = .ok (.invokevirtual 39, 3) := by decide +kernel
theorem dX4_holds_5 : decode cX4_holds 5 = .ok (.aload_n 0, 1) := by decide +kernel
theorem dX4_holds_6 : decode cX4_holds 6 = .ok (.getfield 18, 3) := by decide +kernel
theorem dX4_holds_9 : decode cX4_holds 9 = .ok (.if_icmp .ge 7, 3) := by decide +kernel
theorem dX4_holds_12 : decode cX4_holds 12 = .ok (.iconst 1, 1) := by decide +kernel
theorem dX4_holds_13 : decode cX4_holds 13 = .ok (.goto 4, 3) := by decide +kernel
theorem dX4_holds_16 : decode cX4_holds 16 = .ok (.iconst 0, 1) := by decide +kernel
theorem dX4_holds_17 : decode cX4_holds 17 = .ok (.ireturn, 1) := by decide +kernel
theorem dX4_positionOf_0 : decode cX4_positionOf 0 = .ok (.iconst 0, 1) := by decide +kernel
theorem dX4_positionOf_1 : decode cX4_positionOf 1 = .ok (.istore_n 2, 1) := by decide +kernel
theorem dX4_positionOf_2 : decode cX4_positionOf 2 = .ok (.iload_n 2, 1) := by decide +kernel
theorem dX4_positionOf_3 : decode cX4_positionOf 3 = .ok (.aload_n 0, 1) := by decide +kernel
theorem dX4_positionOf_4 : decode cX4_positionOf 4 = .ok (.getfield 18, 3) := by decide +kernel
theorem dX4_positionOf_7 : decode cX4_positionOf 7 = .ok (.if_icmp .ge 18, 3) := by decide +kernel
theorem dX4_positionOf_10 : decode cX4_positionOf 10 = .ok (.aload_n 0, 1) := by decide +kernel
theorem dX4_positionOf_11 : decode cX4_positionOf 11 = .ok (.iload_n 2, 1) := by decide +kernel
theorem dX4_positionOf_12 : decode cX4_positionOf 12 = .ok (.invokevirtual 43, 3) := by decide +kernel
theorem dX4_positionOf_15 : decode cX4_positionOf 15 = .ok (.iload_n 1, 1) := by decide +kernel
theorem dX4_positionOf_16 : decode cX4_positionOf 16 = .ok (.if_icmp .eq 9, 3) := by decide +kernel
theorem dX4_positionOf_19 : decode cX4_positionOf 19 = .ok (.iinc 2 1, 3) := by decide +kernel
theorem dX4_positionOf_22 : decode cX4_positionOf 22 = .ok (.goto (-20), 3) := by decide +kernel
theorem dX4_positionOf_25 : decode cX4_positionOf 25 = .ok (.iload_n 2, 1) := by decide +kernel
theorem dX4_positionOf_26 : decode cX4_positionOf 26 = .ok (.ireturn, 1) := by decide +kernel
theorem dX4_remove_0 : decode cX4_remove 0 = .ok (.aload_n 0, 1) := by decide +kernel
theorem dX4_remove_1 : decode cX4_remove 1 = .ok (.iload_n 1, 1) := by decide +kernel
theorem dX4_remove_2 : decode cX4_remove 2 = .ok (.invokevirtual 39, 3) := by decide +kernel
theorem dX4_remove_5 : decode cX4_remove 5 = .ok (.istore_n 2, 1) := by decide +kernel
theorem dX4_remove_6 : decode cX4_remove 6 = .ok (.iload_n 2, 1) := by decide +kernel
theorem dX4_remove_7 : decode cX4_remove 7 = .ok (.aload_n 0, 1) := by decide +kernel
theorem dX4_remove_8 : decode cX4_remove 8 = .ok (.getfield 18, 3) := by decide +kernel
theorem dX4_remove_11 : decode cX4_remove 11 = .ok (.if_icmp .ge 12, 3) := by decide +kernel
theorem dX4_remove_14 : decode cX4_remove 14 = .ok (.iload_n 2, 1) := by decide +kernel
theorem dX4_remove_15 : decode cX4_remove 15 = .ok (.aload_n 0, 1) := by decide +kernel
theorem dX4_remove_16 : decode cX4_remove 16 = .ok (.getfield 11, 3) := by decide +kernel
theorem dX4_remove_19 : decode cX4_remove 19 = .ok (.arraylength, 1) := by decide +kernel
theorem dX4_remove_20 : decode cX4_remove 20 = .ok (.if_icmp .lt 4, 3) := by decide +kernel
theorem dX4_remove_23 : decode cX4_remove 23 = .ok (.return_, 1) := by decide +kernel
theorem dX4_remove_24 : decode cX4_remove 24 = .ok (.aload_n 0, 1) := by decide +kernel
theorem dX4_remove_25 : decode cX4_remove 25 = .ok (.getfield 11, 3) := by decide +kernel
theorem dX4_remove_28 : decode cX4_remove 28 = .ok (.iload_n 2, 1) := by decide +kernel
theorem dX4_remove_29 : decode cX4_remove 29 = .ok (.aaload, 1) := by decide +kernel
theorem dX4_remove_30 : decode cX4_remove 30 = .ok (.astore_n 3, 1) := by decide +kernel
theorem dX4_remove_31 : decode cX4_remove 31 = .ok (.iload_n 2, 1) := by decide +kernel
theorem dX4_remove_32 : decode cX4_remove 32 = .ok (.istore 4, 2) := by decide +kernel
theorem dX4_remove_34 : decode cX4_remove 34 = .ok (.iload 4, 2) := by decide +kernel
theorem dX4_remove_36 : decode cX4_remove 36 = .ok (.iconst 1, 1) := by decide +kernel
theorem dX4_remove_37 : decode cX4_remove 37 = .ok (.iadd, 1) := by decide +kernel
theorem dX4_remove_38 : decode cX4_remove 38 = .ok (.aload_n 0, 1) := by decide +kernel
theorem dX4_remove_39 : decode cX4_remove 39 = .ok (.getfield 11, 3) := by decide +kernel
theorem dX4_remove_42 : decode cX4_remove 42 = .ok (.arraylength, 1) := by decide +kernel
theorem dX4_remove_43 : decode cX4_remove 43 = .ok (.if_icmp .ge 25, 3) := by decide +kernel
theorem dX4_remove_46 : decode cX4_remove 46 = .ok (.aload_n 0, 1) := by decide +kernel
theorem dX4_remove_47 : decode cX4_remove 47 = .ok (.getfield 11, 3) := by decide +kernel
theorem dX4_remove_50 : decode cX4_remove 50 = .ok (.iload 4, 2) := by decide +kernel
theorem dX4_remove_52 : decode cX4_remove 52 = .ok (.aload_n 0, 1) := by decide +kernel
theorem dX4_remove_53 : decode cX4_remove 53 = .ok (.getfield 11, 3) := by decide +kernel
theorem dX4_remove_56 : decode cX4_remove 56 = .ok (.iload 4, 2) := by decide +kernel
theorem dX4_remove_58 : decode cX4_remove 58 = .ok (.iconst 1, 1) := by decide +kernel
theorem dX4_remove_59 : decode cX4_remove 59 = .ok (.iadd, 1) := by decide +kernel
theorem dX4_remove_60 : decode cX4_remove 60 = .ok (.aaload, 1) := by decide +kernel
theorem dX4_remove_61 : decode cX4_remove 61 = .ok (.aastore, 1) := by decide +kernel
theorem dX4_remove_62 : decode cX4_remove 62 = .ok (.iinc 4 1, 3) := by decide +kernel
theorem dX4_remove_65 : decode cX4_remove 65 = .ok (.goto (-31), 3) := by decide +kernel
theorem dX4_remove_68 : decode cX4_remove 68 = .ok (.aload_n 0, 1) := by decide +kernel
theorem dX4_remove_69 : decode cX4_remove 69 = .ok (.getfield 11, 3) := by decide +kernel
theorem dX4_remove_72 : decode cX4_remove 72 = .ok (.aload_n 0, 1) := by decide +kernel
theorem dX4_remove_73 : decode cX4_remove 73 = .ok (.getfield 11, 3) := by decide +kernel
theorem dX4_remove_76 : decode cX4_remove 76 = .ok (.arraylength, 1) := by decide +kernel
theorem dX4_remove_77 : decode cX4_remove 77 = .ok (.iconst 1, 1) := by decide +kernel
theorem dX4_remove_78 : decode cX4_remove 78 = .ok (.isub, 1) := by decide +kernel
theorem dX4_remove_79 : decode cX4_remove 79 = .ok (.aload_n 3, 1) := by decide +kernel
theorem dX4_remove_80 : decode cX4_remove 80 = .ok (.aastore, 1) := by decide +kernel
theorem dX4_remove_81 : decode cX4_remove 81 = .ok (.aload_n 0, 1) := by decide +kernel
theorem dX4_remove_82 : decode cX4_remove 82 = .ok (.dup, 1) := by decide +kernel
theorem dX4_remove_83 : decode cX4_remove 83 = .ok (.getfield 18, 3) := by decide +kernel
theorem dX4_remove_86 : decode cX4_remove 86 = .ok (.iconst 1, 1) := by decide +kernel
theorem dX4_remove_87 : decode cX4_remove 87 = .ok (.isub, 1) := by decide +kernel
theorem dX4_remove_88 : decode cX4_remove 88 = .ok (.putfield 18, 3) := by decide +kernel
theorem dX4_remove_91 : decode cX4_remove 91 = .ok (.return_, 1) := by decide +kernel
theorem dX4_oldest_0 : decode cX4_oldest 0 = .ok (.iconst 0, 1) := by decide +kernel
theorem dX4_oldest_1 : decode cX4_oldest 1 = .ok (.istore_n 2, 1) := by decide +kernel
theorem dX4_oldest_2 : decode cX4_oldest 2 = .ok (.iload_n 2, 1) := by decide +kernel
theorem dX4_oldest_3 : decode cX4_oldest 3 = .ok (.aload_n 0, 1) := by decide +kernel
theorem dX4_oldest_4 : decode cX4_oldest 4 = .ok (.getfield 18, 3) := by decide +kernel
theorem dX4_oldest_7 : decode cX4_oldest 7 = .ok (.if_icmp .ge 48, 3) := by decide +kernel
theorem dX4_oldest_10 : decode cX4_oldest 10 = .ok (.iload_n 2, 1) := by decide +kernel
theorem dX4_oldest_11 : decode cX4_oldest 11 = .ok (.aload_n 0, 1) := by decide +kernel
theorem dX4_oldest_12 : decode cX4_oldest 12 = .ok (.getfield 11, 3) := by decide +kernel
theorem dX4_oldest_15 : decode cX4_oldest 15 = .ok (.arraylength, 1) := by decide +kernel
theorem dX4_oldest_16 : decode cX4_oldest 16 = .ok (.if_icmp .ge 39, 3) := by decide +kernel
theorem dX4_oldest_19 : decode cX4_oldest 19 = .ok (.aload_n 0, 1) := by decide +kernel
theorem dX4_oldest_20 : decode cX4_oldest 20 = .ok (.getfield 11, 3) := by decide +kernel
theorem dX4_oldest_23 : decode cX4_oldest 23 = .ok (.iload_n 2, 1) := by decide +kernel
theorem dX4_oldest_24 : decode cX4_oldest 24 = .ok (.aaload, 1) := by decide +kernel
theorem dX4_oldest_25 : decode cX4_oldest 25 = .ok (.getfield 25, 3) := by decide +kernel
theorem dX4_oldest_28 : decode cX4_oldest 28 = .ok (.bipush 111, 2) := by decide +kernel
theorem dX4_oldest_30 : decode cX4_oldest 30 = .ok (.if_icmp .ne 7, 3) := by decide +kernel
theorem dX4_oldest_33 : decode cX4_oldest 33 = .ok (.iconst 1, 1) := by decide +kernel
theorem dX4_oldest_34 : decode cX4_oldest 34 = .ok (.goto 4, 3) := by decide +kernel
theorem dX4_oldest_37 : decode cX4_oldest 37 = .ok (.iconst 0, 1) := by decide +kernel
theorem dX4_oldest_38 : decode cX4_oldest 38 = .ok (.iload_n 1, 1) := by decide +kernel
theorem dX4_oldest_39 : decode cX4_oldest 39 = .ok (.if_icmp .ne 10, 3) := by decide +kernel
theorem dX4_oldest_42 : decode cX4_oldest 42 = .ok (.aload_n 0, 1) := by decide +kernel
theorem dX4_oldest_43 : decode cX4_oldest 43 = .ok (.getfield 11, 3) := by decide +kernel
theorem dX4_oldest_46 : decode cX4_oldest 46 = .ok (.iload_n 2, 1) := by decide +kernel
theorem dX4_oldest_47 : decode cX4_oldest 47 = .ok (.aaload, 1) := by decide +kernel
theorem dX4_oldest_48 : decode cX4_oldest 48 = .ok (.areturn, 1) := by decide +kernel
theorem dX4_oldest_49 : decode cX4_oldest 49 = .ok (.iinc 2 1, 3) := by decide +kernel
theorem dX4_oldest_52 : decode cX4_oldest 52 = .ok (.goto (-50), 3) := by decide +kernel
theorem dX4_oldest_55 : decode cX4_oldest 55 = .ok (.aconst_null, 1) := by decide +kernel
theorem dX4_oldest_56 : decode cX4_oldest 56 = .ok (.areturn, 1) := by decide +kernel
theorem dX5_addLevel_0 : decode cX5_addLevel 0 = .ok (.iload_n 1, 1) := by decide +kernel
theorem dX5_addLevel_1 : decode cX5_addLevel 1 = .ok (.bipush 10, 2) := by decide +kernel
theorem dX5_addLevel_3 : decode cX5_addLevel 3 = .ok (.sipush 2000, 3) := by decide +kernel
theorem dX5_addLevel_6 : decode cX5_addLevel 6 = .ok (.invokestatic 26, 3) := by decide +kernel
theorem dX5_addLevel_9 : decode cX5_addLevel 9 = .ok (.iload_n 2, 1) := by decide +kernel
theorem dX5_addLevel_10 : decode cX5_addLevel 10 = .ok (.iconst 1, 1) := by decide +kernel
theorem dX5_addLevel_11 : decode cX5_addLevel 11 = .ok (.sipush 500, 3) := by decide +kernel
theorem dX5_addLevel_14 : decode cX5_addLevel 14 = .ok (.invokestatic 26, 3) := by decide +kernel
theorem dX5_addLevel_17 : decode cX5_addLevel 17 = .ok (.iload_n 3, 1) := by decide +kernel
theorem dX5_addLevel_18 : decode cX5_addLevel 18 = .ok (.iconst 1, 1) := by decide +kernel
theorem dX5_addLevel_19 : decode cX5_addLevel 19 = .ok (.bipush 20, 2) := by decide +kernel
theorem dX5_addLevel_21 : decode cX5_addLevel 21 = .ok (.invokestatic 26, 3) := by decide +kernel
theorem dX5_addLevel_24 : decode cX5_addLevel 24 = .ok (.iload 4, 2) := by decide +kernel
theorem dX5_addLevel_26 : decode cX5_addLevel 26 = .ok (.iconst 0, 1) := by decide +kernel
theorem dX5_addLevel_27 : decode cX5_addLevel 27 = .ok (.bipush 50, 2) := by decide +kernel
theorem dX5_addLevel_29 : decode cX5_addLevel 29 = .ok (.invokestatic 26, 3) := by decide +kernel
theorem dX5_addLevel_32 : decode cX5_addLevel 32 = .ok (.iload_n 1, 1) := by decide +kernel
theorem dX5_addLevel_33 : decode cX5_addLevel 33 = .ok (.aload_n 0, 1) := by decide +kernel
theorem dX5_addLevel_34 : decode cX5_addLevel 34 = .ok (.getfield 10, 3) := by decide +kernel
theorem dX5_addLevel_37 : decode cX5_addLevel 37 = .ok (.aload_n 0, 1) := by decide +kernel
theorem dX5_addLevel_38 : decode cX5_addLevel 38 = .ok (.getfield 10, 3) := by decide +kernel
theorem dX5_addLevel_41 : decode cX5_addLevel 41 = .ok (.getfield 30, 3) := by decide +kernel
theorem dX5_addLevel_44 : decode cX5_addLevel 44 = .ok (.invokevirtual 34, 3) := by decide +kernel
theorem dX5_addLevel_47 : decode cX5_addLevel 47 = .ok (.getfield 38, 3) := by decide +kernel
theorem dX5_addLevel_50 : decode cX5_addLevel 50 = .ok (.if_icmp .gt 13, 3) := by decide +kernel
theorem dX5_addLevel_53 : decode cX5_addLevel 53 = .ok (.new 43, 3) := by decide +kernel
theorem dX5_addLevel_56 : decode cX5_addLevel 56 = .ok (.dup, 1) := by decide +kernel
theorem dX5_addLevel_57 : decode cX5_addLevel 57 = .ok (.ldc 45, 2) := by decide +kernel
theorem dX5_addLevel_59 : decode cX5_addLevel 59 = .ok (.invokespecial 47, 3) := by decide +kernel
theorem dX5_addLevel_62 : decode cX5_addLevel 62 = .ok (.athrow, 1) := by decide +kernel
theorem dX5_addLevel_63 : decode cX5_addLevel 63 = .ok (.aload_n 0, 1) := by decide +kernel
theorem dX5_addLevel_64 : decode cX5_addLevel 64 = .ok (.getfield 10, 3) := by decide +kernel
theorem dX5_addLevel_67 : decode cX5_addLevel 67 = .ok (.getfield 30, 3) := by decide +kernel
theorem dX5_addLevel_70 : decode cX5_addLevel 70 = .ok (.bipush 6, 2) := by decide +kernel
theorem dX5_addLevel_72 : decode cX5_addLevel 72 = .ok (.if_icmp .ge 13, 3) := by decide +kernel
theorem dX5_addLevel_75 : decode cX5_addLevel 75 = .ok (.aload_n 0, 1) := by decide +kernel
theorem dX5_addLevel_76 : decode cX5_addLevel 76 = .ok (.getfield 10, 3) := by decide +kernel
theorem dX5_addLevel_79 : decode cX5_addLevel 79 = .ok (.getfield 50, 3) := by decide +kernel
theorem dX5_addLevel_82 : decode cX5_addLevel 82 = .ok (.ifCond .le 13, 3) := by decide +kernel
theorem dX5_addLevel_85 : decode cX5_addLevel 85 = .ok (.new 53, 3) := by decide +kernel
theorem dX5_addLevel_88 : decode cX5_addLevel 88 = .ok (.dup, 1) := by decide +kernel
theorem dX5_addLevel_89 : decode cX5_addLevel 89 = .ok (.ldc 55, 2) := by decide +kernel
theorem dX5_addLevel_91 : decode cX5_addLevel 91 = .ok (.invokespecial 57, 3) := by decide +kernel
theorem dX5_addLevel_94 : decode cX5_addLevel 94 = .ok (.athrow, 1) := by decide +kernel
theorem dX5_addLevel_95 : decode cX5_addLevel 95 = .ok (.aload_n 0, 1) := by decide +kernel
theorem dX5_addLevel_96 : decode cX5_addLevel 96 = .ok (.getfield 10, 3) := by decide +kernel
theorem dX5_addLevel_99 : decode cX5_addLevel 99 = .ok (.dup, 1) := by decide +kernel
theorem dX5_addLevel_100 : decode cX5_addLevel 100 = .ok (.getfield 30, 3) := by decide +kernel
theorem dX5_addLevel_103 : decode cX5_addLevel 103 = .ok (.iconst 1, 1) := by decide +kernel
theorem dX5_addLevel_104 : decode cX5_addLevel 104 = .ok (.iadd, 1) := by decide +kernel
theorem dX5_addLevel_105 : decode cX5_addLevel 105 = .ok (.putfield 30, 3) := by decide +kernel
theorem dX5_addLevel_108 : decode cX5_addLevel 108 = .ok (.aload_n 0, 1) := by decide +kernel
theorem dX5_addLevel_109 : decode cX5_addLevel 109 = .ok (.getfield 10, 3) := by decide +kernel
theorem dX5_addLevel_112 : decode cX5_addLevel 112 = .ok (.aload_n 0, 1) := by decide +kernel
theorem dX5_addLevel_113 : decode cX5_addLevel 113 = .ok (.getfield 10, 3) := by decide +kernel
theorem dX5_addLevel_116 : decode cX5_addLevel 116 = .ok (.getfield 30, 3) := by decide +kernel
theorem dX5_addLevel_119 : decode cX5_addLevel 119 = .ok (.invokevirtual 34, 3) := by decide +kernel
theorem dX5_addLevel_122 : decode cX5_addLevel 122 = .ok (.iload_n 1, 1) := by decide +kernel
theorem dX5_addLevel_123 : decode cX5_addLevel 123 = .ok (.iload_n 2, 1) := by decide +kernel
theorem dX5_addLevel_124 : decode cX5_addLevel 124 = .ok (.iload_n 3, 1) := by decide +kernel
theorem dX5_addLevel_125 : decode cX5_addLevel 125 = .ok (.iload 4, 2) := by decide +kernel
theorem dX5_addLevel_127 : decode cX5_addLevel 127 = .ok (.invokevirtual 58, 3) := by decide +kernel
theorem dX5_addLevel_130 : decode cX5_addLevel 130 = .ok (.aload_n 0, 1) := by decide +kernel
theorem dX5_addLevel_131 : decode cX5_addLevel 131 = .ok (.getfield 10, 3) := by decide +kernel
theorem dX5_addLevel_134 : decode cX5_addLevel 134 = .ok (.invokevirtual 62, 3) := by decide +kernel
theorem dX5_addLevel_137 : decode cX5_addLevel 137 = .ok (.aload_n 0, 1) := by decide +kernel
theorem dX5_addLevel_138 : decode cX5_addLevel 138 = .ok (.getfield 10, 3) := by decide +kernel
theorem dX5_addLevel_141 : decode cX5_addLevel 141 = .ok (.getfield 30, 3) := by decide +kernel
theorem dX5_addLevel_144 : decode cX5_addLevel 144 = .ok (.ireturn, 1) := by decide +kernel
theorem dX5_levelCount_0 : decode cX5_levelCount 0 = .ok (.aload_n 0, 1) := by decide +kernel
theorem dX5_levelCount_1 : decode cX5_levelCount 1 = .ok (.getfield 10, 3) := by decide +kernel
theorem dX5_levelCount_4 : decode cX5_levelCount 4 = .ok (.getfield 30, 3) := by decide +kernel
theorem dX5_levelCount_7 : decode cX5_levelCount 7 = .ok (.ireturn, 1) := by decide +kernel
theorem dX5_depthOf_0 : decode cX5_depthOf 0 = .ok (.aload_n 0, 1) := by decide +kernel
theorem dX5_depthOf_1 : decode cX5_depthOf 1 = .ok (.iload_n 1, 1) := by decide +kernel
theorem dX5_depthOf_2 : decode cX5_depthOf 2 = .ok (.invokevirtual 65, 3) := by decide +kernel
theorem dX5_depthOf_5 : decode cX5_depthOf 5 = .ok (.aload_n 0, 1) := by decide +kernel
theorem dX5_depthOf_6 : decode cX5_depthOf 6 = .ok (.getfield 10, 3) := by decide +kernel
theorem dX5_depthOf_9 : decode cX5_depthOf 9 = .ok (.iload_n 1, 1) := by decide +kernel
theorem dX5_depthOf_10 : decode cX5_depthOf 10 = .ok (.invokevirtual 34, 3) := by decide +kernel
theorem dX5_depthOf_13 : decode cX5_depthOf 13 = .ok (.getfield 38, 3) := by decide +kernel
theorem dX5_depthOf_16 : decode cX5_depthOf 16 = .ok (.ireturn, 1) := by decide +kernel
theorem dX5_setFan_0 : decode cX5_setFan 0 = .ok (.iload_n 1, 1) := by decide +kernel
theorem dX5_setFan_1 : decode cX5_setFan 1 = .ok (.iconst 0, 1) := by decide +kernel
theorem dX5_setFan_2 : decode cX5_setFan 2 = .ok (.sipush 1000, 3) := by decide +kernel
theorem dX5_setFan_5 : decode cX5_setFan 5 = .ok (.invokestatic 26, 3) := by decide +kernel
theorem dX5_setFan_8 : decode cX5_setFan 8 = .ok (.aload_n 0, 1) := by decide +kernel
theorem dX5_setFan_9 : decode cX5_setFan 9 = .ok (.getfield 10, 3) := by decide +kernel
theorem dX5_setFan_12 : decode cX5_setFan 12 = .ok (.getfield 69, 3) := by decide +kernel
theorem dX5_setFan_15 : decode cX5_setFan 15 = .ok (.istore_n 2, 1) := by decide +kernel
theorem dX5_setFan_16 : decode cX5_setFan 16 = .ok (.aload_n 0, 1) := by decide +kernel
theorem dX5_setFan_17 : decode cX5_setFan 17 = .ok (.getfield 10, 3) := by decide +kernel
theorem dX5_setFan_20 : decode cX5_setFan 20 = .ok (.iload_n 1, 1) := by decide +kernel
theorem dX5_setFan_21 : decode cX5_setFan 21 = .ok (.putfield 69, 3) := by decide +kernel
theorem dX5_setFan_24 : decode cX5_setFan 24 = .ok (.aload_n 0, 1) := by decide +kernel
theorem dX5_setFan_25 : decode cX5_setFan 25 = .ok (.getfield 10, 3) := by decide +kernel
theorem dX5_setFan_28 : decode cX5_setFan 28 = .ok (.invokevirtual 62, 3) := by decide +kernel
theorem dX5_setFan_31 : decode cX5_setFan 31 = .ok (.iload_n 2, 1) := by decide +kernel
theorem dX5_setFan_32 : decode cX5_setFan 32 = .ok (.ireturn, 1) := by decide +kernel
theorem dX5_setDoor_0 : decode cX5_setDoor 0 = .ok (.aload_n 0, 1) := by decide +kernel
theorem dX5_setDoor_1 : decode cX5_setDoor 1 = .ok (.iload_n 1, 1) := by decide +kernel
theorem dX5_setDoor_2 : decode cX5_setDoor 2 = .ok (.invokevirtual 72, 3) := by decide +kernel
theorem dX5_setDoor_5 : decode cX5_setDoor 5 = .ok (.aload_n 0, 1) := by decide +kernel
theorem dX5_setDoor_6 : decode cX5_setDoor 6 = .ok (.getfield 10, 3) := by decide +kernel
theorem dX5_setDoor_9 : decode cX5_setDoor 9 = .ok (.iload_n 1, 1) := by decide +kernel
theorem dX5_setDoor_10 : decode cX5_setDoor 10 = .ok (.invokevirtual 34, 3) := by decide +kernel
theorem dX5_setDoor_13 : decode cX5_setDoor 13 = .ok (.astore_n 3, 1) := by decide +kernel
theorem dX5_setDoor_14 : decode cX5_setDoor 14 = .ok (.aload_n 3, 1) := by decide +kernel
theorem dX5_setDoor_15 : decode cX5_setDoor 15 = .ok (.getfield 75, 3) := by decide +kernel
theorem dX5_setDoor_18 : decode cX5_setDoor 18 = .ok (.istore 4, 2) := by decide +kernel
theorem dX5_setDoor_20 : decode cX5_setDoor 20 = .ok (.aload_n 3, 1) := by decide +kernel
theorem dX5_setDoor_21 : decode cX5_setDoor 21 = .ok (.iload_n 2, 1) := by decide +kernel
theorem dX5_setDoor_22 : decode cX5_setDoor 22 = .ok (.putfield 75, 3) := by decide +kernel
theorem dX5_setDoor_25 : decode cX5_setDoor 25 = .ok (.aload_n 0, 1) := by decide +kernel
theorem dX5_setDoor_26 : decode cX5_setDoor 26 = .ok (.getfield 10, 3) := by decide +kernel
theorem dX5_setDoor_29 : decode cX5_setDoor 29 = .ok (.invokevirtual 62, 3) := by decide +kernel
theorem dX5_setDoor_32 : decode cX5_setDoor 32 = .ok (.iload 4, 2) := by decide +kernel
theorem dX5_setDoor_34 : decode cX5_setDoor 34 = .ok (.ireturn, 1) := by decide +kernel
theorem dX5_airOf_0 : decode cX5_airOf 0 = .ok (.aload_n 0, 1) := by decide +kernel
theorem dX5_airOf_1 : decode cX5_airOf 1 = .ok (.iload_n 1, 1) := by decide +kernel
theorem dX5_airOf_2 : decode cX5_airOf 2 = .ok (.invokevirtual 72, 3) := by decide +kernel
theorem dX5_airOf_5 : decode cX5_airOf 5 = .ok (.aload_n 0, 1) := by decide +kernel
theorem dX5_airOf_6 : decode cX5_airOf 6 = .ok (.getfield 10, 3) := by decide +kernel
theorem dX5_airOf_9 : decode cX5_airOf 9 = .ok (.iload_n 1, 1) := by decide +kernel
theorem dX5_airOf_10 : decode cX5_airOf 10 = .ok (.invokevirtual 34, 3) := by decide +kernel
theorem dX5_airOf_13 : decode cX5_airOf 13 = .ok (.getfield 79, 3) := by decide +kernel
theorem dX5_airOf_16 : decode cX5_airOf 16 = .ok (.ireturn, 1) := by decide +kernel
theorem dX5_airByPaths_0 : decode cX5_airByPaths 0 = .ok (.aload_n 0, 1) := by decide +kernel
theorem dX5_airByPaths_1 : decode cX5_airByPaths 1 = .ok (.iload_n 1, 1) := by decide +kernel
theorem dX5_airByPaths_2 : decode cX5_airByPaths 2 = .ok (.invokevirtual 72, 3) := by decide +kernel
theorem dX5_airByPaths_5 : decode cX5_airByPaths 5 = .ok (.aload_n 0, 1) := by decide +kernel
theorem dX5_airByPaths_6 : decode cX5_airByPaths 6 = .ok (.getfield 10, 3) := by decide +kernel
theorem dX5_airByPaths_9 : decode cX5_airByPaths 9 = .ok (.invokevirtual 82, 3) := by decide +kernel
theorem dX5_airByPaths_12 : decode cX5_airByPaths 12 = .ok (.aload_n 0, 1) := by decide +kernel
theorem dX5_airByPaths_13 : decode cX5_airByPaths 13 = .ok (.getfield 10, 3) := by decide +kernel
theorem dX5_airByPaths_16 : decode cX5_airByPaths 16 = .ok (.iload_n 1, 1) := by decide +kernel
theorem dX5_airByPaths_17 : decode cX5_airByPaths 17 = .ok (.invokevirtual 34, 3) := by decide +kernel
theorem dX5_airByPaths_20 : decode cX5_airByPaths 20 = .ok (.getfield 85, 3) := by decide +kernel
theorem dX5_airByPaths_23 : decode cX5_airByPaths 23 = .ok (.ireturn, 1) := by decide +kernel
theorem dX5_setLimit_0 : decode cX5_setLimit 0 = .ok (.iload_n 1, 1) := by decide +kernel
theorem dX5_setLimit_1 : decode cX5_setLimit 1 = .ok (.iconst 1, 1) := by decide +kernel
theorem dX5_setLimit_2 : decode cX5_setLimit 2 = .ok (.sipush 1000, 3) := by decide +kernel
theorem dX5_setLimit_5 : decode cX5_setLimit 5 = .ok (.invokestatic 26, 3) := by decide +kernel
theorem dX5_setLimit_8 : decode cX5_setLimit 8 = .ok (.aload_n 0, 1) := by decide +kernel
theorem dX5_setLimit_9 : decode cX5_setLimit 9 = .ok (.getfield 10, 3) := by decide +kernel
theorem dX5_setLimit_12 : decode cX5_setLimit 12 = .ok (.getfield 88, 3) := by decide +kernel
theorem dX5_setLimit_15 : decode cX5_setLimit 15 = .ok (.istore_n 2, 1) := by decide +kernel
theorem dX5_setLimit_16 : decode cX5_setLimit 16 = .ok (.aload_n 0, 1) := by decide +kernel
theorem dX5_setLimit_17 : decode cX5_setLimit 17 = .ok (.getfield 10, 3) := by decide +kernel
theorem dX5_setLimit_20 : decode cX5_setLimit 20 = .ok (.iload_n 1, 1) := by decide +kernel
theorem dX5_setLimit_21 : decode cX5_setLimit 21 = .ok (.putfield 88, 3) := by decide +kernel
theorem dX5_setLimit_24 : decode cX5_setLimit 24 = .ok (.iload_n 2, 1) := by decide +kernel
theorem dX5_setLimit_25 : decode cX5_setLimit 25 = .ok (.ireturn, 1) := by decide +kernel
theorem dX5_gasOf_0 : decode cX5_gasOf 0 = .ok (.aload_n 0, 1) := by decide +kernel
theorem dX5_gasOf_1 : decode cX5_gasOf 1 = .ok (.iload_n 1, 1) := by decide +kernel
theorem dX5_gasOf_2 : decode cX5_gasOf 2 = .ok (.invokevirtual 72, 3) := by decide +kernel
theorem dX5_gasOf_5 : decode cX5_gasOf 5 = .ok (.aload_n 0, 1) := by decide +kernel
theorem dX5_gasOf_6 : decode cX5_gasOf 6 = .ok (.getfield 10, 3) := by decide +kernel
theorem dX5_gasOf_9 : decode cX5_gasOf 9 = .ok (.iload_n 1, 1) := by decide +kernel
theorem dX5_gasOf_10 : decode cX5_gasOf 10 = .ok (.invokevirtual 34, 3) := by decide +kernel
theorem dX5_gasOf_13 : decode cX5_gasOf 13 = .ok (.getfield 91, 3) := by decide +kernel
theorem dX5_gasOf_16 : decode cX5_gasOf 16 = .ok (.ireturn, 1) := by decide +kernel
theorem dX5_gasShare_0 : decode cX5_gasShare 0 = .ok (.aload_n 0, 1) := by decide +kernel
theorem dX5_gasShare_1 : decode cX5_gasShare 1 = .ok (.iload_n 1, 1) := by decide +kernel
theorem dX5_gasShare_2 : decode cX5_gasShare 2 = .ok (.invokevirtual 72, 3) := by decide +kernel
theorem dX5_gasShare_5 : decode cX5_gasShare 5 = .ok (.aload_n 0, 1) := by decide +kernel
theorem dX5_gasShare_6 : decode cX5_gasShare 6 = .ok (.getfield 10, 3) := by decide +kernel
theorem dX5_gasShare_9 : decode cX5_gasShare 9 = .ok (.iload_n 1, 1) := by decide +kernel
theorem dX5_gasShare_10 : decode cX5_gasShare 10 = .ok (.invokevirtual 34, 3) := by decide +kernel
theorem dX5_gasShare_13 : decode cX5_gasShare 13 = .ok (.invokevirtual 94, 3) := by decide +kernel
theorem dX5_gasShare_16 : decode cX5_gasShare 16 = .ok (.ireturn, 1) := by decide +kernel
theorem dX5_isAlarm_0 : decode cX5_isAlarm 0 = .ok (.aload_n 0, 1) := by decide +kernel
theorem dX5_isAlarm_1 : decode cX5_isAlarm 1 = .ok (.iload_n 1, 1) := by decide +kernel
theorem dX5_isAlarm_2 : decode cX5_isAlarm 2 = .ok (.invokevirtual 72, 3) := by decide +kernel
theorem dX5_isAlarm_5 : decode cX5_isAlarm 5 = .ok (.aload_n 0, 1) := by decide +kernel
theorem dX5_isAlarm_6 : decode cX5_isAlarm 6 = .ok (.getfield 10, 3) := by decide +kernel
theorem dX5_isAlarm_9 : decode cX5_isAlarm 9 = .ok (.aload_n 0, 1) := by decide +kernel
theorem dX5_isAlarm_10 : decode cX5_isAlarm 10 = .ok (.getfield 10, 3) := by decide +kernel
theorem dX5_isAlarm_13 : decode cX5_isAlarm 13 = .ok (.iload_n 1, 1) := by decide +kernel
theorem dX5_isAlarm_14 : decode cX5_isAlarm 14 = .ok (.invokevirtual 34, 3) := by decide +kernel
theorem dX5_isAlarm_17 : decode cX5_isAlarm 17 = .ok (.invokevirtual 98, 3) := by decide +kernel
theorem dX5_isAlarm_20 : decode cX5_isAlarm 20 = .ok (.ireturn, 1) := by decide +kernel
theorem dX5_gasTotal_0 : decode cX5_gasTotal 0 = .ok (.aload_n 0, 1) := by decide +kernel
theorem dX5_gasTotal_1 : decode cX5_gasTotal 1 = .ok (.getfield 10, 3) := by decide +kernel
theorem dX5_gasTotal_4 : decode cX5_gasTotal 4 = .ok (.getfield 102, 3) := by decide +kernel
theorem dX5_gasTotal_7 : decode cX5_gasTotal 7 = .ok (.ireturn, 1) := by decide +kernel
theorem dX5_ventedTotal_0 : decode cX5_ventedTotal 0 = .ok (.aload_n 0, 1) := by decide +kernel
theorem dX5_ventedTotal_1 : decode cX5_ventedTotal 1 = .ok (.getfield 10, 3) := by decide +kernel
theorem dX5_ventedTotal_4 : decode cX5_ventedTotal 4 = .ok (.getfield 105, 3) := by decide +kernel
theorem dX5_ventedTotal_7 : decode cX5_ventedTotal 7 = .ok (.ireturn, 1) := by decide +kernel
theorem dX5_meanShare_0 : decode cX5_meanShare 0 = .ok (.aload_n 0, 1) := by decide +kernel
theorem dX5_meanShare_1 : decode cX5_meanShare 1 = .ok (.getfield 10, 3) := by decide +kernel
theorem dX5_meanShare_4 : decode cX5_meanShare 4 = .ok (.getfield 30, 3) := by decide +kernel
theorem dX5_meanShare_7 : decode cX5_meanShare 7 = .ok (.ifCond .ne 13, 3) := by decide +kernel
theorem dX5_meanShare_10 : decode cX5_meanShare 10 = .ok (.new 108, 3) := by decide +kernel
theorem dX5_meanShare_13 : decode cX5_meanShare 13 = .ok (.dup, 1) := by decide +kernel
theorem dX5_meanShare_14 : decode cX5_meanShare 14 = .ok (.ldc 110, 2) := by decide +kernel
theorem dX5_meanShare_16 : decode cX5_meanShare 16 = .ok (.invokespecial 112, 3) := by decide +kernel
theorem dX5_meanShare_19 : decode cX5_meanShare 19 = .ok (.athrow, 1) := by decide +kernel
theorem dX5_meanShare_20 : decode cX5_meanShare 20 = .ok (.iconst 0, 1) := by decide +kernel
theorem dX5_meanShare_21 : decode cX5_meanShare 21 = .ok (.istore_n 1, 1) := by decide +kernel
theorem dX5_meanShare_22 : decode cX5_meanShare 22 = .ok (.iconst 1, 1) := by decide +kernel
theorem dX5_meanShare_23 : decode cX5_meanShare 23 = .ok (.istore_n 2, 1) := by decide +kernel
theorem dX5_meanShare_24 : decode cX5_meanShare 24 = .ok (.iload_n 2, 1) := by decide +kernel
theorem dX5_meanShare_25 : decode cX5_meanShare 25 = .ok (.aload_n 0, 1) := by decide +kernel
theorem dX5_meanShare_26 : decode cX5_meanShare 26 = .ok (.getfield 10, 3) := by decide +kernel
theorem dX5_meanShare_29 : decode cX5_meanShare 29 = .ok (.getfield 30, 3) := by decide +kernel
theorem dX5_meanShare_32 : decode cX5_meanShare 32 = .ok (.if_icmp .gt 23, 3) := by decide +kernel
theorem dX5_meanShare_35 : decode cX5_meanShare 35 = .ok (.iload_n 1, 1) := by decide +kernel
theorem dX5_meanShare_36 : decode cX5_meanShare 36 = .ok (.aload_n 0, 1) := by decide +kernel
theorem dX5_meanShare_37 : decode cX5_meanShare 37 = .ok (.getfield 10, 3) := by decide +kernel
theorem dX5_meanShare_40 : decode cX5_meanShare 40 = .ok (.iload_n 2, 1) := by decide +kernel
theorem dX5_meanShare_41 : decode cX5_meanShare 41 = .ok (.invokevirtual 34, 3) := by decide +kernel
theorem dX5_meanShare_44 : decode cX5_meanShare 44 = .ok (.invokevirtual 94, 3) := by decide +kernel
theorem dX5_meanShare_47 : decode cX5_meanShare 47 = .ok (.iadd, 1) := by decide +kernel
theorem dX5_meanShare_48 : decode cX5_meanShare 48 = .ok (.istore_n 1, 1) := by decide +kernel
theorem dX5_meanShare_49 : decode cX5_meanShare 49 = .ok (.iinc 2 1, 3) := by decide +kernel
theorem dX5_meanShare_52 : decode cX5_meanShare 52 = .ok (.goto (-28), 3) := by decide +kernel
theorem dX5_meanShare_55 : decode cX5_meanShare 55 = .ok (.iload_n 1, 1) := by decide +kernel
theorem dX5_meanShare_56 : decode cX5_meanShare 56 = .ok (.i2d, 1) := by decide +kernel
theorem dX5_meanShare_57 : decode cX5_meanShare 57 = .ok (.aload_n 0, 1) := by decide +kernel
theorem dX5_meanShare_58 : decode cX5_meanShare 58 = .ok (.getfield 10, 3) := by decide +kernel
theorem dX5_meanShare_61 : decode cX5_meanShare 61 = .ok (.getfield 30, 3) := by decide +kernel
theorem dX5_meanShare_64 : decode cX5_meanShare 64 = .ok (.i2d, 1) := by decide +kernel
theorem dX5_meanShare_65 : decode cX5_meanShare 65 = .ok (.ddiv, 1) := by decide +kernel
theorem dX5_meanShare_66 : decode cX5_meanShare 66 = .ok (.dreturn, 1) := by decide +kernel
theorem dX5_minutesToAlarm_0 : decode cX5_minutesToAlarm 0 = .ok (.aload_n 0, 1) := by decide +kernel
theorem dX5_minutesToAlarm_1 : decode cX5_minutesToAlarm 1 = .ok (.iload_n 1, 1) := by decide +kernel
theorem dX5_minutesToAlarm_2 : decode cX5_minutesToAlarm 2 = .ok (.invokevirtual 72, 3) := by decide +kernel
theorem dX5_minutesToAlarm_5 : decode cX5_minutesToAlarm 5 = .ok (.aload_n 0, 1) := by decide +kernel
theorem dX5_minutesToAlarm_6 : decode cX5_minutesToAlarm 6 = .ok (.getfield 16, 3) := by decide +kernel
theorem dX5_minutesToAlarm_9 : decode cX5_minutesToAlarm 9 = .ok (.aload_n 0, 1) := by decide +kernel
theorem dX5_minutesToAlarm_10 : decode cX5_minutesToAlarm 10 = .ok (.getfield 10, 3) := by decide +kernel
theorem dX5_minutesToAlarm_13 : decode cX5_minutesToAlarm 13 = .ok (.invokevirtual 113, 3) := by decide +kernel
theorem dX5_minutesToAlarm_16 : decode cX5_minutesToAlarm 16 = .ok (.aload_n 0, 1) := by decide +kernel
theorem dX5_minutesToAlarm_17 : decode cX5_minutesToAlarm 17 = .ok (.getfield 16, 3) := by decide +kernel
theorem dX5_minutesToAlarm_20 : decode cX5_minutesToAlarm 20 = .ok (.aload_n 0, 1) := by decide +kernel
theorem dX5_minutesToAlarm_21 : decode cX5_minutesToAlarm 21 = .ok (.getfield 16, 3) := by decide +kernel
theorem dX5_minutesToAlarm_24 : decode cX5_minutesToAlarm 24 = .ok (.iload_n 1, 1) := by decide +kernel
theorem dX5_minutesToAlarm_25 : decode cX5_minutesToAlarm 25 = .ok (.invokevirtual 34, 3) := by decide +kernel
theorem dX5_minutesToAlarm_28 : decode cX5_minutesToAlarm 28 = .ok (.invokevirtual 117, 3) := by decide +kernel
theorem dX5_minutesToAlarm_31 : decode cX5_minutesToAlarm 31 = .ok (.istore_n 2, 1) := by decide +kernel
theorem dX5_minutesToAlarm_32 : decode cX5_minutesToAlarm 32 = .ok (.iload_n 2, 1) := by decide +kernel
theorem dX5_minutesToAlarm_33 : decode cX5_minutesToAlarm 33 = .ok (.iconst (-1), 1) := by decide +kernel
theorem dX5_minutesToAlarm_34 : decode cX5_minutesToAlarm 34 = .ok (.if_icmp .ne 13, 3) := by decide +kernel
theorem dX5_minutesToAlarm_37 : decode cX5_minutesToAlarm 37 = .ok (.new 121, 3) := by decide +kernel
theorem dX5_minutesToAlarm_40 : decode cX5_minutesToAlarm 40 = .ok (.dup, 1) := by decide +kernel
theorem dX5_minutesToAlarm_41 : decode cX5_minutesToAlarm 41 = .ok (.ldc 123, 2) := by decide +kernel
theorem dX5_minutesToAlarm_43 : decode cX5_minutesToAlarm 43 = .ok (.invokespecial 125, 3) := by decide +kernel
theorem dX5_minutesToAlarm_46 : decode cX5_minutesToAlarm 46 = .ok (.athrow, 1) := by decide +kernel
theorem dX5_minutesToAlarm_47 : decode cX5_minutesToAlarm 47 = .ok (.iload_n 2, 1) := by decide +kernel
theorem dX5_minutesToAlarm_48 : decode cX5_minutesToAlarm 48 = .ok (.ireturn, 1) := by decide +kernel
theorem dX5_hire_0 : decode cX5_hire 0 = .ok (.iload_n 1, 1) := by decide +kernel
theorem dX5_hire_1 : decode cX5_hire 1 = .ok (.iconst 1, 1) := by decide +kernel
theorem dX5_hire_2 : decode cX5_hire 2 = .ok (.bipush 99, 2) := by decide +kernel
theorem dX5_hire_4 : decode cX5_hire 4 = .ok (.invokestatic 26, 3) := by decide +kernel
theorem dX5_hire_7 : decode cX5_hire 7 = .ok (.aload_n 0, 1) := by decide +kernel
theorem dX5_hire_8 : decode cX5_hire 8 = .ok (.getfield 10, 3) := by decide +kernel
theorem dX5_hire_11 : decode cX5_hire 11 = .ok (.invokevirtual 126, 3) := by decide +kernel
theorem dX5_hire_14 : decode cX5_hire 14 = .ok (.iload_n 1, 1) := by decide +kernel
theorem dX5_hire_15 : decode cX5_hire 15 = .ok (.iadd, 1) := by decide +kernel
theorem dX5_hire_16 : decode cX5_hire 16 = .ok (.sipush 200, 3) := by decide +kernel
theorem dX5_hire_19 : decode cX5_hire 19 = .ok (.if_icmp .le 13, 3) := by decide +kernel
theorem dX5_hire_22 : decode cX5_hire 22 = .ok (.new 53, 3) := by decide +kernel
theorem dX5_hire_25 : decode cX5_hire 25 = .ok (.dup, 1) := by decide +kernel
theorem dX5_hire_26 : decode cX5_hire 26 = .ok (.ldc 129, 2) := by decide +kernel
theorem dX5_hire_28 : decode cX5_hire 28 = .ok (.invokespecial 57, 3) := by decide +kernel
theorem dX5_hire_31 : decode cX5_hire 31 = .ok (.athrow, 1) := by decide +kernel
theorem dX5_hire_32 : decode cX5_hire 32 = .ok (.aload_n 0, 1) := by decide +kernel
theorem dX5_hire_33 : decode cX5_hire 33 = .ok (.getfield 10, 3) := by decide +kernel
theorem dX5_hire_36 : decode cX5_hire 36 = .ok (.getfield 131, 3) := by decide +kernel
theorem dX5_hire_39 : decode cX5_hire 39 = .ok (.dup, 1) := by decide +kernel
theorem dX5_hire_40 : decode cX5_hire 40 = .ok (.getfield 135, 3) := by decide +kernel
theorem dX5_hire_43 : decode cX5_hire 43 = .ok (.iload_n 1, 1) := by decide +kernel
theorem dX5_hire_44 : decode cX5_hire 44 = .ok (.iadd, 1) := by decide +kernel
theorem dX5_hire_45 : decode cX5_hire 45 = .ok (.putfield 135, 3) := by decide +kernel
theorem dX5_hire_48 : decode cX5_hire 48 = .ok (.aload_n 0, 1) := by decide +kernel
theorem dX5_hire_49 : decode cX5_hire 49 = .ok (.getfield 10, 3) := by decide +kernel
theorem dX5_hire_52 : decode cX5_hire 52 = .ok (.getfield 131, 3) := by decide +kernel
theorem dX5_hire_55 : decode cX5_hire 55 = .ok (.getfield 135, 3) := by decide +kernel
theorem dX5_hire_58 : decode cX5_hire 58 = .ok (.ireturn, 1) := by decide +kernel
theorem dX5_peopleAt_0 : decode cX5_peopleAt 0 = .ok (.aload_n 0, 1) := by decide +kernel
theorem dX5_peopleAt_1 : decode cX5_peopleAt 1 = .ok (.iload_n 1, 1) := by decide +kernel
theorem dX5_peopleAt_2 : decode cX5_peopleAt 2 = .ok (.invokevirtual 65, 3) := by decide +kernel
theorem dX5_peopleAt_5 : decode cX5_peopleAt 5 = .ok (.aload_n 0, 1) := by decide +kernel
theorem dX5_peopleAt_6 : decode cX5_peopleAt 6 = .ok (.getfield 10, 3) := by decide +kernel
theorem dX5_peopleAt_9 : decode cX5_peopleAt 9 = .ok (.iload_n 1, 1) := by decide +kernel
theorem dX5_peopleAt_10 : decode cX5_peopleAt 10 = .ok (.invokevirtual 34, 3) := by decide +kernel
theorem dX5_peopleAt_13 : decode cX5_peopleAt 13 = .ok (.getfield 135, 3) := by decide +kernel
theorem dX5_peopleAt_16 : decode cX5_peopleAt 16 = .ok (.ireturn, 1) := by decide +kernel
theorem dX5_peopleTotal_0 : decode cX5_peopleTotal 0 = .ok (.aload_n 0, 1) := by decide +kernel
theorem dX5_peopleTotal_1 : decode cX5_peopleTotal 1 = .ok (.getfield 10, 3) := by decide +kernel
theorem dX5_peopleTotal_4 : decode cX5_peopleTotal 4 = .ok (.invokevirtual 126, 3) := by decide +kernel
theorem dX5_peopleTotal_7 : decode cX5_peopleTotal 7 = .ok (.ireturn, 1) := by decide +kernel
theorem dX5_endangered_0 : decode cX5_endangered 0 = .ok (.iconst 0, 1) := by decide +kernel
theorem dX5_endangered_1 : decode cX5_endangered 1 = .ok (.istore_n 1, 1) := by decide +kernel
theorem dX5_endangered_2 : decode cX5_endangered 2 = .ok (.iconst 1, 1) := by decide +kernel
theorem dX5_endangered_3 : decode cX5_endangered 3 = .ok (.istore_n 2, 1) := by decide +kernel
theorem dX5_endangered_4 : decode cX5_endangered 4 = .ok (.iload_n 2, 1) := by decide +kernel
theorem dX5_endangered_5 : decode cX5_endangered 5 = .ok (.aload_n 0, 1) := by decide +kernel
theorem dX5_endangered_6 : decode cX5_endangered 6 = .ok (.getfield 10, 3) := by decide +kernel
theorem dX5_endangered_9 : decode cX5_endangered 9 = .ok (.getfield 30, 3) := by decide +kernel
theorem dX5_endangered_12 : decode cX5_endangered 12 = .ok (.if_icmp .gt 36, 3) := by decide +kernel
theorem dX5_endangered_15 : decode cX5_endangered 15 = .ok (.aload_n 0, 1) := by decide +kernel
theorem dX5_endangered_16 : decode cX5_endangered 16 = .ok (.getfield 10, 3) := by decide +kernel
theorem dX5_endangered_19 : decode cX5_endangered 19 = .ok (.iload_n 2, 1) := by decide +kernel
theorem dX5_endangered_20 : decode cX5_endangered 20 = .ok (.invokevirtual 34, 3) := by decide +kernel
theorem dX5_endangered_23 : decode cX5_endangered 23 = .ok (.astore_n 3, 1) := by decide +kernel
theorem dX5_endangered_24 : decode cX5_endangered 24 = .ok (.aload_n 0, 1) := by decide +kernel
theorem dX5_endangered_25 : decode cX5_endangered 25 = .ok (.getfield 10, 3) := by decide +kernel
theorem dX5_endangered_28 : decode cX5_endangered 28 = .ok (.aload_n 3, 1) := by decide +kernel
theorem dX5_endangered_29 : decode cX5_endangered 29 = .ok (.invokevirtual 98, 3) := by decide +kernel
theorem dX5_endangered_32 : decode cX5_endangered 32 = .ok (.ifCond .eq 10, 3) := by decide +kernel
theorem dX5_endangered_35 : decode cX5_endangered 35 = .ok (.iload_n 1, 1) := by decide +kernel
theorem dX5_endangered_36 : decode cX5_endangered 36 = .ok (.aload_n 3, 1) := by decide +kernel
theorem dX5_endangered_37 : decode cX5_endangered 37 = .ok (.getfield 135, 3) := by decide +kernel
theorem dX5_endangered_40 : decode cX5_endangered 40 = .ok (.iadd, 1) := by decide +kernel
theorem dX5_endangered_41 : decode cX5_endangered 41 = .ok (.istore_n 1, 1) := by decide +kernel
theorem dX5_endangered_42 : decode cX5_endangered 42 = .ok (.iinc 2 1, 3) := by decide +kernel
theorem dX5_endangered_45 : decode cX5_endangered 45 = .ok (.goto (-41), 3) := by decide +kernel
theorem dX5_endangered_48 : decode cX5_endangered 48 = .ok (.iload_n 1, 1) := by decide +kernel
theorem dX5_endangered_49 : decode cX5_endangered 49 = .ok (.ireturn, 1) := by decide +kernel
theorem dX5_oreAt_0 : decode cX5_oreAt 0 = .ok (.aload_n 0, 1) := by decide +kernel
theorem dX5_oreAt_1 : decode cX5_oreAt 1 = .ok (.iload_n 1, 1) := by decide +kernel
theorem dX5_oreAt_2 : decode cX5_oreAt 2 = .ok (.invokevirtual 65, 3) := by decide +kernel
theorem dX5_oreAt_5 : decode cX5_oreAt 5 = .ok (.aload_n 0, 1) := by decide +kernel
theorem dX5_oreAt_6 : decode cX5_oreAt 6 = .ok (.getfield 10, 3) := by decide +kernel
theorem dX5_oreAt_9 : decode cX5_oreAt 9 = .ok (.iload_n 1, 1) := by decide +kernel
theorem dX5_oreAt_10 : decode cX5_oreAt 10 = .ok (.invokevirtual 34, 3) := by decide +kernel
theorem dX5_oreAt_13 : decode cX5_oreAt 13 = .ok (.getfield 138, 3) := by decide +kernel
theorem dX5_oreAt_16 : decode cX5_oreAt 16 = .ok (.ireturn, 1) := by decide +kernel
theorem dX5_blast_0 : decode cX5_blast 0 = .ok (.aload_n 0, 1) := by decide +kernel
theorem dX5_blast_1 : decode cX5_blast 1 = .ok (.iload_n 1, 1) := by decide +kernel
theorem dX5_blast_2 : decode cX5_blast 2 = .ok (.invokevirtual 72, 3) := by decide +kernel
theorem dX5_blast_5 : decode cX5_blast 5 = .ok (.iload_n 2, 1) := by decide +kernel
theorem dX5_blast_6 : decode cX5_blast 6 = .ok (.iconst 1, 1) := by decide +kernel
theorem dX5_blast_7 : decode cX5_blast 7 = .ok (.bipush 20, 2) := by decide +kernel
theorem dX5_blast_9 : decode cX5_blast 9 = .ok (.invokestatic 26, 3) := by decide +kernel
theorem dX5_blast_12 : decode cX5_blast 12 = .ok (.aload_n 0, 1) := by decide +kernel
theorem dX5_blast_13 : decode cX5_blast 13 = .ok (.getfield 10, 3) := by decide +kernel
theorem dX5_blast_16 : decode cX5_blast 16 = .ok (.iload_n 1, 1) := by decide +kernel
theorem dX5_blast_17 : decode cX5_blast 17 = .ok (.invokevirtual 34, 3) := by decide +kernel
theorem dX5_blast_20 : decode cX5_blast 20 = .ok (.astore_n 3, 1) := by decide +kernel
theorem dX5_blast_21 : decode cX5_blast 21 = .ok (.aload_n 0, 1) := by decide +kernel
theorem dX5_blast_22 : decode cX5_blast 22 = .ok (.getfield 10, 3) := by decide +kernel
theorem dX5_blast_25 : decode cX5_blast 25 = .ok (.aload_n 3, 1) := by decide +kernel
theorem dX5_blast_26 : decode cX5_blast 26 = .ok (.invokevirtual 141, 3) := by decide +kernel
theorem dX5_blast_29 : decode cX5_blast 29 = .ok (.ifCond .eq 13, 3) := by decide +kernel
theorem dX5_blast_32 : decode cX5_blast 32 = .ok (.new 53, 3) := by decide +kernel
theorem dX5_blast_35 : decode cX5_blast 35 = .ok (.dup, 1) := by decide +kernel
theorem dX5_blast_36 : decode cX5_blast 36 = .ok (.ldc 144, 2) := by decide +kernel
theorem dX5_blast_38 : decode cX5_blast 38 = .ok (.invokespecial 57, 3) := by decide +kernel
theorem dX5_blast_41 : decode cX5_blast 41 = .ok (.athrow, 1) := by decide +kernel
theorem dX5_blast_42 : decode cX5_blast 42 = .ok (.aload_n 3, 1) := by decide +kernel
theorem dX5_blast_43 : decode cX5_blast 43 = .ok (.getfield 135, 3) := by decide +kernel
theorem dX5_blast_46 : decode cX5_blast 46 = .ok (.ifCond .gt 17, 3) := by decide +kernel
theorem dX5_blast_49 : decode cX5_blast 49 = .ok (.aload_n 0, 1) := by decide +kernel
theorem dX5_blast_50 : decode cX5_blast 50 = .ok (.getfield 10, 3) := by decide +kernel
theorem dX5_blast_53 : decode cX5_blast 53 = .ok (.getfield 146, 3) := by decide +kernel
theorem dX5_blast_56 : decode cX5_blast 56 = .ok (.iload_n 1, 1) := by decide +kernel
theorem dX5_blast_57 : decode cX5_blast 57 = .ok (.invokevirtual 150, 3) := by decide +kernel
theorem dX5_blast_60 : decode cX5_blast 60 = .ok (.ifCond .eq 13, 3) := by decide +kernel
theorem dX5_blast_63 : decode cX5_blast 63 = .ok (.new 156, 3) := by decide +kernel
theorem dX5_blast_66 : decode cX5_blast 66 = .ok (.dup, 1) := by decide +kernel
theorem dX5_blast_67 : decode cX5_blast 67 = .ok (.ldc 158, 2) := by decide +kernel
theorem dX5_blast_69 : decode cX5_blast 69 = .ok (.invokespecial 160, 3) := by decide +kernel
theorem dX5_blast_72 : decode cX5_blast 72 = .ok (.athrow, 1) := by decide +kernel
theorem dX5_blast_73 : decode cX5_blast 73 = .ok (.aload_n 0, 1) := by decide +kernel
theorem dX5_blast_74 : decode cX5_blast 74 = .ok (.getfield 10, 3) := by decide +kernel
theorem dX5_blast_77 : decode cX5_blast 77 = .ok (.aload_n 3, 1) := by decide +kernel
theorem dX5_blast_78 : decode cX5_blast 78 = .ok (.iconst 5, 1) := by decide +kernel
theorem dX5_blast_79 : decode cX5_blast 79 = .ok (.iload_n 2, 1) := by decide +kernel
theorem dX5_blast_80 : decode cX5_blast 80 = .ok (.imul, 1) := by decide +kernel
theorem dX5_blast_81 : decode cX5_blast 81 = .ok (.invokevirtual 161, 3) := by decide +kernel
theorem dX5_blast_84 : decode cX5_blast 84 = .ok (.aload_n 3, 1) := by decide +kernel
theorem dX5_blast_85 : decode cX5_blast 85 = .ok (.dup, 1) := by decide +kernel
theorem dX5_blast_86 : decode cX5_blast 86 = .ok (.getfield 138, 3) := by decide +kernel
theorem dX5_blast_89 : decode cX5_blast 89 = .ok (.iconst 3, 1) := by decide +kernel
theorem dX5_blast_90 : decode cX5_blast 90 = .ok (.iload_n 2, 1) := by decide +kernel
theorem dX5_blast_91 : decode cX5_blast 91 = .ok (.imul, 1) := by decide +kernel
theorem dX5_blast_92 : decode cX5_blast 92 = .ok (.iadd, 1) := by decide +kernel
theorem dX5_blast_93 : decode cX5_blast 93 = .ok (.putfield 138, 3) := by decide +kernel
theorem dX5_blast_96 : decode cX5_blast 96 = .ok (.aload_n 3, 1) := by decide +kernel
theorem dX5_blast_97 : decode cX5_blast 97 = .ok (.aload_n 0, 1) := by decide +kernel
theorem dX5_blast_98 : decode cX5_blast 98 = .ok (.getfield 10, 3) := by decide +kernel
theorem dX5_blast_101 : decode cX5_blast 101 = .ok (.getfield 50, 3) := by decide +kernel
theorem dX5_blast_104 : decode cX5_blast 104 = .ok (.bipush 30, 2) := by decide +kernel
theorem dX5_blast_106 : decode cX5_blast 106 = .ok (.iadd, 1) := by decide +kernel
theorem dX5_blast_107 : decode cX5_blast 107 = .ok (.putfield 165, 3) := by decide +kernel
theorem dX5_blast_110 : decode cX5_blast 110 = .ok (.aload_n 3, 1) := by decide +kernel
theorem dX5_blast_111 : decode cX5_blast 111 = .ok (.getfield 165, 3) := by decide +kernel
theorem dX5_blast_114 : decode cX5_blast 114 = .ok (.ireturn, 1) := by decide +kernel
theorem dX5_isClosed_0 : decode cX5_isClosed 0 = .ok (.aload_n 0, 1) := by decide +kernel
theorem dX5_isClosed_1 : decode cX5_isClosed 1 = .ok (.iload_n 1, 1) := by decide +kernel
theorem dX5_isClosed_2 : decode cX5_isClosed 2 = .ok (.invokevirtual 72, 3) := by decide +kernel
theorem dX5_isClosed_5 : decode cX5_isClosed 5 = .ok (.aload_n 0, 1) := by decide +kernel
theorem dX5_isClosed_6 : decode cX5_isClosed 6 = .ok (.getfield 10, 3) := by decide +kernel
theorem dX5_isClosed_9 : decode cX5_isClosed 9 = .ok (.aload_n 0, 1) := by decide +kernel
theorem dX5_isClosed_10 : decode cX5_isClosed 10 = .ok (.getfield 10, 3) := by decide +kernel
theorem dX5_isClosed_13 : decode cX5_isClosed 13 = .ok (.iload_n 1, 1) := by decide +kernel
theorem dX5_isClosed_14 : decode cX5_isClosed 14 = .ok (.invokevirtual 34, 3) := by decide +kernel
theorem dX5_isClosed_17 : decode cX5_isClosed 17 = .ok (.invokevirtual 141, 3) := by decide +kernel
theorem dX5_isClosed_20 : decode cX5_isClosed 20 = .ok (.ireturn, 1) := by decide +kernel
theorem dX5_setSpeed_0 : decode cX5_setSpeed 0 = .ok (.iload_n 1, 1) := by decide +kernel
theorem dX5_setSpeed_1 : decode cX5_setSpeed 1 = .ok (.bipush 10, 2) := by decide +kernel
theorem dX5_setSpeed_3 : decode cX5_setSpeed 3 = .ok (.sipush 500, 3) := by decide +kernel
theorem dX5_setSpeed_6 : decode cX5_setSpeed 6 = .ok (.invokestatic 26, 3) := by decide +kernel
theorem dX5_setSpeed_9 : decode cX5_setSpeed 9 = .ok (.aload_n 0, 1) := by decide +kernel
theorem dX5_setSpeed_10 : decode cX5_setSpeed 10 = .ok (.getfield 10, 3) := by decide +kernel
theorem dX5_setSpeed_13 : decode cX5_setSpeed 13 = .ok (.getfield 168, 3) := by decide +kernel
theorem dX5_setSpeed_16 : decode cX5_setSpeed 16 = .ok (.istore_n 2, 1) := by decide +kernel
theorem dX5_setSpeed_17 : decode cX5_setSpeed 17 = .ok (.aload_n 0, 1) := by decide +kernel
theorem dX5_setSpeed_18 : decode cX5_setSpeed 18 = .ok (.getfield 10, 3) := by decide +kernel
theorem dX5_setSpeed_21 : decode cX5_setSpeed 21 = .ok (.iload_n 1, 1) := by decide +kernel
theorem dX5_setSpeed_22 : decode cX5_setSpeed 22 = .ok (.putfield 168, 3) := by decide +kernel
theorem dX5_setSpeed_25 : decode cX5_setSpeed 25 = .ok (.iload_n 2, 1) := by decide +kernel
theorem dX5_setSpeed_26 : decode cX5_setSpeed 26 = .ok (.ireturn, 1) := by decide +kernel
theorem dX5_sendDown_0 : decode cX5_sendDown 0 = .ok (.aload_n 0, 1) := by decide +kernel
theorem dX5_sendDown_1 : decode cX5_sendDown 1 = .ok (.iload_n 1, 1) := by decide +kernel
theorem dX5_sendDown_2 : decode cX5_sendDown 2 = .ok (.invokevirtual 72, 3) := by decide +kernel
theorem dX5_sendDown_5 : decode cX5_sendDown 5 = .ok (.iload_n 2, 1) := by decide +kernel
theorem dX5_sendDown_6 : decode cX5_sendDown 6 = .ok (.iconst 1, 1) := by decide +kernel
theorem dX5_sendDown_7 : decode cX5_sendDown 7 = .ok (.bipush 12, 2) := by decide +kernel
theorem dX5_sendDown_9 : decode cX5_sendDown 9 = .ok (.invokestatic 26, 3) := by decide +kernel
theorem dX5_sendDown_12 : decode cX5_sendDown 12 = .ok (.aload_n 0, 1) := by decide +kernel
theorem dX5_sendDown_13 : decode cX5_sendDown 13 = .ok (.getfield 10, 3) := by decide +kernel
theorem dX5_sendDown_16 : decode cX5_sendDown 16 = .ok (.iload_n 1, 1) := by decide +kernel
theorem dX5_sendDown_17 : decode cX5_sendDown 17 = .ok (.invokevirtual 34, 3) := by decide +kernel
theorem dX5_sendDown_20 : decode cX5_sendDown 20 = .ok (.astore_n 3, 1) := by decide +kernel
theorem dX5_sendDown_21 : decode cX5_sendDown 21 = .ok (.aload_n 0, 1) := by decide +kernel
theorem dX5_sendDown_22 : decode cX5_sendDown 22 = .ok (.getfield 10, 3) := by decide +kernel
theorem dX5_sendDown_25 : decode cX5_sendDown 25 = .ok (.aload_n 3, 1) := by decide +kernel
theorem dX5_sendDown_26 : decode cX5_sendDown 26 = .ok (.invokevirtual 98, 3) := by decide +kernel
theorem dX5_sendDown_29 : decode cX5_sendDown 29 = .ok (.ifCond .ne 14, 3) := by decide +kernel
theorem dX5_sendDown_32 : decode cX5_sendDown 32 = .ok (.aload_n 0, 1) := by decide +kernel
theorem dX5_sendDown_33 : decode cX5_sendDown 33 = .ok (.getfield 10, 3) := by decide +kernel
theorem dX5_sendDown_36 : decode cX5_sendDown 36 = .ok (.aload_n 3, 1) := by decide +kernel
theorem dX5_sendDown_37 : decode cX5_sendDown 37 = .ok (.invokevirtual 141, 3) := by decide +kernel
theorem dX5_sendDown_40 : decode cX5_sendDown 40 = .ok (.ifCond .eq 13, 3) := by decide +kernel
theorem dX5_sendDown_43 : decode cX5_sendDown 43 = .ok (.new 156, 3) := by decide +kernel
theorem dX5_sendDown_46 : decode cX5_sendDown 46 = .ok (.dup, 1) := by decide +kernel
theorem dX5_sendDown_47 : decode cX5_sendDown 47 = .ok (.ldc 171, 2) := by decide +kernel
theorem dX5_sendDown_49 : decode cX5_sendDown 49 = .ok (.invokespecial 160, 3) := by decide +kernel
theorem dX5_sendDown_52 : decode cX5_sendDown 52 = .ok (.athrow, 1) := by decide +kernel
theorem dX5_sendDown_53 : decode cX5_sendDown 53 = .ok (.aload_n 0, 1) := by decide +kernel
theorem dX5_sendDown_54 : decode cX5_sendDown 54 = .ok (.bipush 100, 2) := by decide +kernel
theorem dX5_sendDown_56 : decode cX5_sendDown 56 = .ok (.iload_n 1, 1) := by decide +kernel
theorem dX5_sendDown_57 : decode cX5_sendDown 57 = .ok (.iload_n 2, 1) := by decide +kernel
theorem dX5_sendDown_58 : decode cX5_sendDown 58 = .ok (.invokevirtual 173, 3) := by decide +kernel
theorem dX5_sendDown_61 : decode cX5_sendDown 61 = .ok (.ireturn, 1) := by decide +kernel
theorem dX5_callUp_0 : decode cX5_callUp 0 = .ok (.aload_n 0, 1) := by decide +kernel
theorem dX5_callUp_1 : decode cX5_callUp 1 = .ok (.iload_n 1, 1) := by decide +kernel
theorem dX5_callUp_2 : decode cX5_callUp 2 = .ok (.invokevirtual 72, 3) := by decide +kernel
theorem dX5_callUp_5 : decode cX5_callUp 5 = .ok (.iload_n 2, 1) := by decide +kernel
theorem dX5_callUp_6 : decode cX5_callUp 6 = .ok (.iconst 1, 1) := by decide +kernel
theorem dX5_callUp_7 : decode cX5_callUp 7 = .ok (.bipush 12, 2) := by decide +kernel
theorem dX5_callUp_9 : decode cX5_callUp 9 = .ok (.invokestatic 26, 3) := by decide +kernel
theorem dX5_callUp_12 : decode cX5_callUp 12 = .ok (.aload_n 0, 1) := by decide +kernel
theorem dX5_callUp_13 : decode cX5_callUp 13 = .ok (.bipush 117, 2) := by decide +kernel
theorem dX5_callUp_15 : decode cX5_callUp 15 = .ok (.iload_n 1, 1) := by decide +kernel
theorem dX5_callUp_16 : decode cX5_callUp 16 = .ok (.iload_n 2, 1) := by decide +kernel
theorem dX5_callUp_17 : decode cX5_callUp 17 = .ok (.invokevirtual 173, 3) := by decide +kernel
theorem dX5_callUp_20 : decode cX5_callUp 20 = .ok (.ireturn, 1) := by decide +kernel
theorem dX5_hoistOre_0 : decode cX5_hoistOre 0 = .ok (.aload_n 0, 1) := by decide +kernel
theorem dX5_hoistOre_1 : decode cX5_hoistOre 1 = .ok (.iload_n 1, 1) := by decide +kernel
theorem dX5_hoistOre_2 : decode cX5_hoistOre 2 = .ok (.invokevirtual 72, 3) := by decide +kernel
theorem dX5_hoistOre_5 : decode cX5_hoistOre 5 = .ok (.aload_n 0, 1) := by decide +kernel
theorem dX5_hoistOre_6 : decode cX5_hoistOre 6 = .ok (.bipush 111, 2) := by decide +kernel
theorem dX5_hoistOre_8 : decode cX5_hoistOre 8 = .ok (.iload_n 1, 1) := by decide +kernel
theorem dX5_hoistOre_9 : decode cX5_hoistOre 9 = .ok (.bipush 20, 2) := by decide +kernel
theorem dX5_hoistOre_11 : decode cX5_hoistOre 11 = .ok (.invokevirtual 173, 3) := by decide +kernel
theorem dX5_hoistOre_14 : decode cX5_hoistOre 14 = .ok (.ireturn, 1) := by decide +kernel
theorem dX5_cancel_0 : decode cX5_cancel 0 = .ok (.aload_n 0, 1) := by decide +kernel
theorem dX5_cancel_1 : decode cX5_cancel 1 = .ok (.getfield 10, 3) := by decide +kernel
theorem dX5_cancel_4 : decode cX5_cancel 4 = .ok (.getfield 177, 3) := by decide +kernel
theorem dX5_cancel_7 : decode cX5_cancel 7 = .ok (.iload_n 1, 1) := by decide +kernel
theorem dX5_cancel_8 : decode cX5_cancel 8 = .ok (.invokevirtual 181, 3) := by decide +kernel
theorem dX5_cancel_11 : decode cX5_cancel 11 = .ok (.ifCond .ne 13, 3) := by decide +kernel
theorem dX5_cancel_14 : decode cX5_cancel 14 = .ok (.new 121, 3) := by decide +kernel
theorem dX5_cancel_17 : decode cX5_cancel 17 = .ok (.dup, 1) := by decide +kernel
theorem dX5_cancel_18 : decode cX5_cancel 18 = .ok (.ldc 186, 2) := by decide +kernel
theorem dX5_cancel_20 : decode cX5_cancel 20 = .ok (.invokespecial 125, 3) := by decide +kernel
theorem dX5_cancel_23 : decode cX5_cancel 23 = .ok (.athrow, 1) := by decide +kernel
theorem dX5_cancel_24 : decode cX5_cancel 24 = .ok (.aload_n 0, 1) := by decide +kernel
theorem dX5_cancel_25 : decode cX5_cancel 25 = .ok (.getfield 10, 3) := by decide +kernel
theorem dX5_cancel_28 : decode cX5_cancel 28 = .ok (.getfield 177, 3) := by decide +kernel
theorem dX5_cancel_31 : decode cX5_cancel 31 = .ok (.iload_n 1, 1) := by decide +kernel
theorem dX5_cancel_32 : decode cX5_cancel 32 = .ok (.invokevirtual 188, 3) := by decide +kernel
theorem dX5_cancel_35 : decode cX5_cancel 35 = .ok (.aload_n 0, 1) := by decide +kernel
theorem dX5_cancel_36 : decode cX5_cancel 36 = .ok (.getfield 10, 3) := by decide +kernel
theorem dX5_cancel_39 : decode cX5_cancel 39 = .ok (.getfield 177, 3) := by decide +kernel
theorem dX5_cancel_42 : decode cX5_cancel 42 = .ok (.getfield 191, 3) := by decide +kernel
theorem dX5_cancel_45 : decode cX5_cancel 45 = .ok (.ireturn, 1) := by decide +kernel
theorem dX5_waitingCount_0 : decode cX5_waitingCount 0 = .ok (.aload_n 0, 1) := by decide +kernel
theorem dX5_waitingCount_1 : decode cX5_waitingCount 1 = .ok (.getfield 10, 3) := by decide +kernel
theorem dX5_waitingCount_4 : decode cX5_waitingCount 4 = .ok (.getfield 177, 3) := by decide +kernel
theorem dX5_waitingCount_7 : decode cX5_waitingCount 7 = .ok (.getfield 191, 3) := by decide +kernel
theorem dX5_waitingCount_10 : decode cX5_waitingCount 10 = .ok (.ireturn, 1) := by decide +kernel
theorem dX5_waitingAt_0 : decode cX5_waitingAt 0 = .ok (.iload_n 1, 1) := by decide +kernel
theorem dX5_waitingAt_1 : decode cX5_waitingAt 1 = .ok (.ifCond .lt 17, 3) := by decide +kernel
theorem dX5_waitingAt_4 : decode cX5_waitingAt 4 = .ok (.iload_n 1, 1) := by decide +kernel
theorem dX5_waitingAt_5 : decode cX5_waitingAt 5 = .ok (.aload_n 0, 1) := by decide +kernel
theorem dX5_waitingAt_6 : decode cX5_waitingAt 6 = .ok (.getfield 10, 3) := by decide +kernel
theorem dX5_waitingAt_9 : decode cX5_waitingAt 9 = .ok (.getfield 177, 3) := by decide +kernel
theorem dX5_waitingAt_12 : decode cX5_waitingAt 12 = .ok (.getfield 191, 3) := by decide +kernel
theorem dX5_waitingAt_15 : decode cX5_waitingAt 15 = .ok (.if_icmp .lt 13, 3) := by decide +kernel
theorem dX5_waitingAt_18 : decode cX5_waitingAt 18 = .ok (.new 194, 3) := by decide +kernel
theorem dX5_waitingAt_21 : decode cX5_waitingAt 21 = .ok (.dup, 1) := by decide +kernel
theorem dX5_waitingAt_22 : decode cX5_waitingAt 22 = .ok (.ldc 196, 2) := by decide +kernel
theorem dX5_waitingAt_24 : decode cX5_waitingAt 24 = .ok (.invokespecial 198, 3) := by decide +kernel
theorem dX5_waitingAt_27 : decode cX5_waitingAt 27 = .ok (.athrow, 1) := by decide +kernel
theorem dX5_waitingAt_28 : decode cX5_waitingAt 28 = .ok (.aload_n 0, 1) := by decide +kernel
theorem dX5_waitingAt_29 : decode cX5_waitingAt 29 = .ok (.getfield 10, 3) := by decide +kernel
theorem dX5_waitingAt_32 : decode cX5_waitingAt 32 = .ok (.getfield 177, 3) := by decide +kernel
theorem dX5_waitingAt_35 : decode cX5_waitingAt 35 = .ok (.iload_n 1, 1) := by decide +kernel
theorem dX5_waitingAt_36 : decode cX5_waitingAt 36 = .ok (.invokevirtual 199, 3) := by decide +kernel
theorem dX5_waitingAt_39 : decode cX5_waitingAt 39 = .ok (.ireturn, 1) := by decide +kernel
theorem dX5_pass_0 : decode cX5_pass 0 = .ok (.iload_n 1, 1) := by decide +kernel
theorem dX5_pass_1 : decode cX5_pass 1 = .ok (.iconst 1, 1) := by decide +kernel
theorem dX5_pass_2 : decode cX5_pass 2 = .ok (.bipush 60, 2) := by decide +kernel
theorem dX5_pass_4 : decode cX5_pass 4 = .ok (.invokestatic 26, 3) := by decide +kernel
theorem dX5_pass_7 : decode cX5_pass 7 = .ok (.aload_n 0, 1) := by decide +kernel
theorem dX5_pass_8 : decode cX5_pass 8 = .ok (.getfield 10, 3) := by decide +kernel
theorem dX5_pass_11 : decode cX5_pass 11 = .ok (.getfield 50, 3) := by decide +kernel
theorem dX5_pass_14 : decode cX5_pass 14 = .ok (.iload_n 1, 1) := by decide +kernel
theorem dX5_pass_15 : decode cX5_pass 15 = .ok (.iadd, 1) := by decide +kernel
theorem dX5_pass_16 : decode cX5_pass 16 = .ok (.sipush 5000, 3) := by decide +kernel
theorem dX5_pass_19 : decode cX5_pass 19 = .ok (.if_icmp .le 13, 3) := by decide +kernel
theorem dX5_pass_22 : decode cX5_pass 22 = .ok (.new 53, 3) := by decide +kernel
theorem dX5_pass_25 : decode cX5_pass 25 = .ok (.dup, 1) := by decide +kernel
theorem dX5_pass_26 : decode cX5_pass 26 = .ok (.ldc 203, 2) := by decide +kernel
theorem dX5_pass_28 : decode cX5_pass 28 = .ok (.invokespecial 57, 3) := by decide +kernel
theorem dX5_pass_31 : decode cX5_pass 31 = .ok (.athrow, 1) := by decide +kernel
theorem dX5_pass_32 : decode cX5_pass 32 = .ok (.iconst 0, 1) := by decide +kernel
theorem dX5_pass_33 : decode cX5_pass 33 = .ok (.istore_n 2, 1) := by decide +kernel
theorem dX5_pass_34 : decode cX5_pass 34 = .ok (.iload_n 2, 1) := by decide +kernel
theorem dX5_pass_35 : decode cX5_pass 35 = .ok (.iload_n 1, 1) := by decide +kernel
theorem dX5_pass_36 : decode cX5_pass 36 = .ok (.if_icmp .ge 16, 3) := by decide +kernel
theorem dX5_pass_39 : decode cX5_pass 39 = .ok (.aload_n 0, 1) := by decide +kernel
theorem dX5_pass_40 : decode cX5_pass 40 = .ok (.getfield 10, 3) := by decide +kernel
theorem dX5_pass_43 : decode cX5_pass 43 = .ok (.invokevirtual 205, 3) := by decide +kernel
theorem dX5_pass_46 : decode cX5_pass 46 = .ok (.iinc 2 1, 3) := by decide +kernel
theorem dX5_pass_49 : decode cX5_pass 49 = .ok (.goto (-15), 3) := by decide +kernel
theorem dX5_pass_52 : decode cX5_pass 52 = .ok (.aload_n 0, 1) := by decide +kernel
theorem dX5_pass_53 : decode cX5_pass 53 = .ok (.getfield 10, 3) := by decide +kernel
theorem dX5_pass_56 : decode cX5_pass 56 = .ok (.getfield 50, 3) := by decide +kernel
theorem dX5_pass_59 : decode cX5_pass 59 = .ok (.ireturn, 1) := by decide +kernel
theorem dX5_clock_0 : decode cX5_clock 0 = .ok (.aload_n 0, 1) := by decide +kernel
theorem dX5_clock_1 : decode cX5_clock 1 = .ok (.getfield 10, 3) := by decide +kernel
theorem dX5_clock_4 : decode cX5_clock 4 = .ok (.getfield 50, 3) := by decide +kernel
theorem dX5_clock_7 : decode cX5_clock 7 = .ok (.ireturn, 1) := by decide +kernel
theorem dX5_tripKind_0 : decode cX5_tripKind 0 = .ok (.aload_n 0, 1) := by decide +kernel
theorem dX5_tripKind_1 : decode cX5_tripKind 1 = .ok (.getfield 10, 3) := by decide +kernel
theorem dX5_tripKind_4 : decode cX5_tripKind 4 = .ok (.getfield 146, 3) := by decide +kernel
theorem dX5_tripKind_7 : decode cX5_tripKind 7 = .ok (.getfield 208, 3) := by decide +kernel
theorem dX5_tripKind_10 : decode cX5_tripKind 10 = .ok (.ireturn, 1) := by decide +kernel
theorem dX5_tripLevel_0 : decode cX5_tripLevel 0 = .ok (.aload_n 0, 1) := by decide +kernel
theorem dX5_tripLevel_1 : decode cX5_tripLevel 1 = .ok (.invokevirtual 212, 3) := by decide +kernel
theorem dX5_tripLevel_4 : decode cX5_tripLevel 4 = .ok (.aload_n 0, 1) := by decide +kernel
theorem dX5_tripLevel_5 : decode cX5_tripLevel 5 = .ok (.getfield 10, 3) := by decide +kernel
theorem dX5_tripLevel_8 : decode cX5_tripLevel 8 = .ok (.getfield 146, 3) := by decide +kernel
theorem dX5_tripLevel_11 : decode cX5_tripLevel 11 = .ok (.getfield 215, 3) := by decide +kernel
theorem dX5_tripLevel_14 : decode cX5_tripLevel 14 = .ok (.ireturn, 1) := by decide +kernel
theorem dX5_tripLoad_0 : decode cX5_tripLoad 0 = .ok (.aload_n 0, 1) := by decide +kernel
theorem dX5_tripLoad_1 : decode cX5_tripLoad 1 = .ok (.invokevirtual 212, 3) := by decide +kernel
theorem dX5_tripLoad_4 : decode cX5_tripLoad 4 = .ok (.aload_n 0, 1) := by decide +kernel
theorem dX5_tripLoad_5 : decode cX5_tripLoad 5 = .ok (.getfield 10, 3) := by decide +kernel
theorem dX5_tripLoad_8 : decode cX5_tripLoad 8 = .ok (.getfield 146, 3) := by decide +kernel
theorem dX5_tripLoad_11 : decode cX5_tripLoad 11 = .ok (.getfield 218, 3) := by decide +kernel
theorem dX5_tripLoad_14 : decode cX5_tripLoad 14 = .ok (.ireturn, 1) := by decide +kernel
theorem dX5_tripRest_0 : decode cX5_tripRest 0 = .ok (.aload_n 0, 1) := by decide +kernel
theorem dX5_tripRest_1 : decode cX5_tripRest 1 = .ok (.invokevirtual 212, 3) := by decide +kernel
theorem dX5_tripRest_4 : decode cX5_tripRest 4 = .ok (.aload_n 0, 1) := by decide +kernel
theorem dX5_tripRest_5 : decode cX5_tripRest 5 = .ok (.getfield 10, 3) := by decide +kernel
theorem dX5_tripRest_8 : decode cX5_tripRest 8 = .ok (.getfield 146, 3) := by decide +kernel
theorem dX5_tripRest_11 : decode cX5_tripRest 11 = .ok (.getfield 221, 3) := by decide +kernel
theorem dX5_tripRest_14 : decode cX5_tripRest 14 = .ok (.ireturn, 1) := by decide +kernel
theorem dX5_cageLevel_0 : decode cX5_cageLevel 0 = .ok (.aload_n 0, 1) := by decide +kernel
theorem dX5_cageLevel_1 : decode cX5_cageLevel 1 = .ok (.getfield 10, 3) := by decide +kernel
theorem dX5_cageLevel_4 : decode cX5_cageLevel 4 = .ok (.getfield 224, 3) := by decide +kernel
theorem dX5_cageLevel_7 : decode cX5_cageLevel 7 = .ok (.ireturn, 1) := by decide +kernel
theorem dX5_doneCount_0 : decode cX5_doneCount 0 = .ok (.aload_n 0, 1) := by decide +kernel
theorem dX5_doneCount_1 : decode cX5_doneCount 1 = .ok (.getfield 10, 3) := by decide +kernel
theorem dX5_doneCount_4 : decode cX5_doneCount 4 = .ok (.getfield 227, 3) := by decide +kernel
theorem dX5_doneCount_7 : decode cX5_doneCount 7 = .ok (.ireturn, 1) := by decide +kernel
theorem dX5_droppedCount_0 : decode cX5_droppedCount 0 = .ok (.aload_n 0, 1) := by decide +kernel
theorem dX5_droppedCount_1 : decode cX5_droppedCount 1 = .ok (.getfield 10, 3) := by decide +kernel
theorem dX5_droppedCount_4 : decode cX5_droppedCount 4 = .ok (.getfield 230, 3) := by decide +kernel
theorem dX5_droppedCount_7 : decode cX5_droppedCount 7 = .ok (.ireturn, 1) := by decide +kernel
theorem dX5_waitFor_0 : decode cX5_waitFor 0 = .ok (.aload_n 0, 1) := by decide +kernel
theorem dX5_waitFor_1 : decode cX5_waitFor 1 = .ok (.getfield 10, 3) := by decide +kernel
theorem dX5_waitFor_4 : decode cX5_waitFor 4 = .ok (.iload_n 1, 1) := by decide +kernel
theorem dX5_waitFor_5 : decode cX5_waitFor 5 = .ok (.invokevirtual 233, 3) := by decide +kernel
theorem dX5_waitFor_8 : decode cX5_waitFor 8 = .ok (.ifCond .ne 13, 3) := by decide +kernel
theorem dX5_waitFor_11 : decode cX5_waitFor 11 = .ok (.new 121, 3) := by decide +kernel
theorem dX5_waitFor_14 : decode cX5_waitFor 14 = .ok (.dup, 1) := by decide +kernel
theorem dX5_waitFor_15 : decode cX5_waitFor 15 = .ok (.ldc 236, 2) := by decide +kernel
theorem dX5_waitFor_17 : decode cX5_waitFor 17 = .ok (.invokespecial 125, 3) := by decide +kernel
theorem dX5_waitFor_20 : decode cX5_waitFor 20 = .ok (.athrow, 1) := by decide +kernel
theorem dX5_waitFor_21 : decode cX5_waitFor 21 = .ok (.aload_n 0, 1) := by decide +kernel
theorem dX5_waitFor_22 : decode cX5_waitFor 22 = .ok (.getfield 16, 3) := by decide +kernel
theorem dX5_waitFor_25 : decode cX5_waitFor 25 = .ok (.aload_n 0, 1) := by decide +kernel
theorem dX5_waitFor_26 : decode cX5_waitFor 26 = .ok (.getfield 10, 3) := by decide +kernel
theorem dX5_waitFor_29 : decode cX5_waitFor 29 = .ok (.invokevirtual 113, 3) := by decide +kernel
theorem dX5_waitFor_32 : decode cX5_waitFor 32 = .ok (.aload_n 0, 1) := by decide +kernel
theorem dX5_waitFor_33 : decode cX5_waitFor 33 = .ok (.getfield 16, 3) := by decide +kernel
theorem dX5_waitFor_36 : decode cX5_waitFor 36 = .ok (.iload_n 1, 1) := by decide +kernel
theorem dX5_waitFor_37 : decode cX5_waitFor 37 = .ok (.invokevirtual 238, 3) := by decide +kernel
theorem dX5_waitFor_40 : decode cX5_waitFor 40 = .ok (.istore_n 2, 1) := by decide +kernel
theorem dX5_waitFor_41 : decode cX5_waitFor 41 = .ok (.iload_n 2, 1) := by decide +kernel
theorem dX5_waitFor_42 : decode cX5_waitFor 42 = .ok (.iconst (-1), 1) := by decide +kernel
theorem dX5_waitFor_43 : decode cX5_waitFor 43 = .ok (.if_icmp .ne 13, 3) := by decide +kernel
theorem dX5_waitFor_46 : decode cX5_waitFor 46 = .ok (.new 156, 3) := by decide +kernel
theorem dX5_waitFor_49 : decode cX5_waitFor 49 = .ok (.dup, 1) := by decide +kernel
theorem dX5_waitFor_50 : decode cX5_waitFor 50 = .ok (.ldc 241, 2) := by decide +kernel
theorem dX5_waitFor_52 : decode cX5_waitFor 52 = .ok (.invokespecial 160, 3) := by decide +kernel
theorem dX5_waitFor_55 : decode cX5_waitFor 55 = .ok (.athrow, 1) := by decide +kernel
theorem dX5_waitFor_56 : decode cX5_waitFor 56 = .ok (.iload_n 2, 1) := by decide +kernel
theorem dX5_waitFor_57 : decode cX5_waitFor 57 = .ok (.ireturn, 1) := by decide +kernel
theorem dX5_isConsistent_0 : decode cX5_isConsistent 0 = .ok (.aload_n 0, 1) := by decide +kernel
theorem dX5_isConsistent_1 : decode cX5_isConsistent 1 = .ok (.getfield 10, 3) := by decide +kernel
theorem dX5_isConsistent_4 : decode cX5_isConsistent 4 = .ok (.invokevirtual 82, 3) := by decide +kernel
theorem dX5_isConsistent_7 : decode cX5_isConsistent 7 = .ok (.aload_n 0, 1) := by decide +kernel
theorem dX5_isConsistent_8 : decode cX5_isConsistent 8 = .ok (.getfield 10, 3) := by decide +kernel
theorem dX5_isConsistent_11 : decode cX5_isConsistent 11 = .ok (.getfield 105, 3) := by decide +kernel
theorem dX5_isConsistent_14 : decode cX5_isConsistent 14 = .ok (.istore_n 1, 1) := by decide +kernel
theorem dX5_isConsistent_15 : decode cX5_isConsistent 15 = .ok (.iconst 1, 1) := by decide +kernel
theorem dX5_isConsistent_16 : decode cX5_isConsistent 16 = .ok (.istore_n 2, 1) := by decide +kernel
theorem dX5_isConsistent_17 : decode cX5_isConsistent 17 = .ok (.iload_n 2, 1) := by decide +kernel
theorem dX5_isConsistent_18 : decode cX5_isConsistent 18 = .ok (.aload_n 0, 1) := by decide +kernel
theorem dX5_isConsistent_19 : decode cX5_isConsistent 19 = .ok (.getfield 10, 3) := by decide +kernel
theorem dX5_isConsistent_22 : decode cX5_isConsistent 22 = .ok (.getfield 30, 3) := by decide +kernel
theorem dX5_isConsistent_25 : decode cX5_isConsistent 25 = .ok (.if_icmp .gt 38, 3) := by decide +kernel
theorem dX5_isConsistent_28 : decode cX5_isConsistent 28 = .ok (.aload_n 0, 1) := by decide +kernel
theorem dX5_isConsistent_29 : decode cX5_isConsistent 29 = .ok (.getfield 10, 3) := by decide +kernel
theorem dX5_isConsistent_32 : decode cX5_isConsistent 32 = .ok (.iload_n 2, 1) := by decide +kernel
theorem dX5_isConsistent_33 : decode cX5_isConsistent 33 = .ok (.invokevirtual 34, 3) := by decide +kernel
theorem dX5_isConsistent_36 : decode cX5_isConsistent 36 = .ok (.astore_n 3, 1) := by decide +kernel
theorem dX5_isConsistent_37 : decode cX5_isConsistent 37 = .ok (.iload_n 1, 1) := by decide +kernel
theorem dX5_isConsistent_38 : decode cX5_isConsistent 38 = .ok (.aload_n 3, 1) := by decide +kernel
theorem dX5_isConsistent_39 : decode cX5_isConsistent 39 = .ok (.getfield 91, 3) := by decide +kernel
theorem dX5_isConsistent_42 : decode cX5_isConsistent 42 = .ok (.iadd, 1) := by decide +kernel
theorem dX5_isConsistent_43 : decode cX5_isConsistent 43 = .ok (.istore_n 1, 1) := by decide +kernel
theorem dX5_isConsistent_44 : decode cX5_isConsistent 44 = .ok (.aload_n 3, 1) := by decide +kernel
theorem dX5_isConsistent_45 : decode cX5_isConsistent 45 = .ok (.getfield 79, 3) := by decide +kernel
theorem dX5_isConsistent_48 : decode cX5_isConsistent 48 = .ok (.aload_n 3, 1) := by decide +kernel
theorem dX5_isConsistent_49 : decode cX5_isConsistent 49 = .ok (.getfield 85, 3) := by decide +kernel
theorem dX5_isConsistent_52 : decode cX5_isConsistent 52 = .ok (.if_icmp .eq 5, 3) := by decide +kernel
theorem dX5_isConsistent_55 : decode cX5_isConsistent 55 = .ok (.iconst 0, 1) := by decide +kernel
theorem dX5_isConsistent_56 : decode cX5_isConsistent 56 = .ok (.ireturn, 1) := by decide +kernel
theorem dX5_isConsistent_57 : decode cX5_isConsistent 57 = .ok (.iinc 2 1, 3) := by decide +kernel
theorem dX5_isConsistent_60 : decode cX5_isConsistent 60 = .ok (.goto (-43), 3) := by decide +kernel
theorem dX5_isConsistent_63 : decode cX5_isConsistent 63 = .ok (.iload_n 1, 1) := by decide +kernel
theorem dX5_isConsistent_64 : decode cX5_isConsistent 64 = .ok (.aload_n 0, 1) := by decide +kernel
theorem dX5_isConsistent_65 : decode cX5_isConsistent 65 = .ok (.getfield 10, 3) := by decide +kernel
theorem dX5_isConsistent_68 : decode cX5_isConsistent 68 = .ok (.getfield 102, 3) := by decide +kernel
theorem dX5_isConsistent_71 : decode cX5_isConsistent 71 = .ok (.if_icmp .ne 7, 3) := by decide +kernel
theorem dX5_isConsistent_74 : decode cX5_isConsistent 74 = .ok (.iconst 1, 1) := by decide +kernel
theorem dX5_isConsistent_75 : decode cX5_isConsistent 75 = .ok (.goto 4, 3) := by decide +kernel
theorem dX5_isConsistent_78 : decode cX5_isConsistent 78 = .ok (.iconst 0, 1) := by decide +kernel
theorem dX5_isConsistent_79 : decode cX5_isConsistent 79 = .ok (.ireturn, 1) := by decide +kernel
theorem dX5_checkRange_0 : decode cX5_checkRange 0 = .ok (.iload_n 0, 1) := by decide +kernel
theorem dX5_checkRange_1 : decode cX5_checkRange 1 = .ok (.iload_n 1, 1) := by decide +kernel
theorem dX5_checkRange_2 : decode cX5_checkRange 2 = .ok (.if_icmp .lt 8, 3) := by decide +kernel
theorem dX5_checkRange_5 : decode cX5_checkRange 5 = .ok (.iload_n 0, 1) := by decide +kernel
theorem dX5_checkRange_6 : decode cX5_checkRange 6 = .ok (.iload_n 2, 1) := by decide +kernel
theorem dX5_checkRange_7 : decode cX5_checkRange 7 = .ok (.if_icmp .le 14, 3) := by decide +kernel
theorem dX5_checkRange_10 : decode cX5_checkRange 10 = .ok (.new 43, 3) := by decide +kernel
theorem dX5_checkRange_13 : decode cX5_checkRange 13 = .ok (.dup, 1) := by decide +kernel
theorem dX5_checkRange_14 : decode cX5_checkRange 14 = .ok (.ldc_w 277, 3) := by decide +kernel
theorem dX5_checkRange_17 : decode cX5_checkRange 17 = .ok (.invokespecial 47, 3) := by decide +kernel
theorem dX5_checkRange_20 : decode cX5_checkRange 20 = .ok (.athrow, 1) := by decide +kernel
theorem dX5_checkRange_21 : decode cX5_checkRange 21 = .ok (.return_, 1) := by decide +kernel
theorem dX5_checkLevel_0 : decode cX5_checkLevel 0 = .ok (.iload_n 1, 1) := by decide +kernel
theorem dX5_checkLevel_1 : decode cX5_checkLevel 1 = .ok (.ifCond .ne 14, 3) := by decide +kernel
theorem dX5_checkLevel_4 : decode cX5_checkLevel 4 = .ok (.new 194, 3) := by decide +kernel
theorem dX5_checkLevel_7 : decode cX5_checkLevel 7 = .ok (.dup, 1) := by decide +kernel
theorem dX5_checkLevel_8 : decode cX5_checkLevel 8 = .ok (.ldc_w 279, 3) := by decide +kernel
theorem dX5_checkLevel_11 : decode cX5_checkLevel 11 = .ok (.invokespecial 198, 3) := by decide +kernel
theorem dX5_checkLevel_14 : decode cX5_checkLevel 14 = .ok (.athrow, 1) := by decide +kernel
theorem dX5_checkLevel_15 : decode cX5_checkLevel 15 = .ok (.aload_n 0, 1) := by decide +kernel
theorem dX5_checkLevel_16 : decode cX5_checkLevel 16 = .ok (.iload_n 1, 1) := by decide +kernel
theorem dX5_checkLevel_17 : decode cX5_checkLevel 17 = .ok (.invokevirtual 65, 3) := by decide +kernel
theorem dX5_checkLevel_20 : decode cX5_checkLevel 20 = .ok (.return_, 1) := by decide +kernel
theorem dX5_checkPlace_0 : decode cX5_checkPlace 0 = .ok (.iload_n 1, 1) := by decide +kernel
theorem dX5_checkPlace_1 : decode cX5_checkPlace 1 = .ok (.ifCond .lt 14, 3) := by decide +kernel
theorem dX5_checkPlace_4 : decode cX5_checkPlace 4 = .ok (.iload_n 1, 1) := by decide +kernel
theorem dX5_checkPlace_5 : decode cX5_checkPlace 5 = .ok (.aload_n 0, 1) := by decide +kernel
theorem dX5_checkPlace_6 : decode cX5_checkPlace 6 = .ok (.getfield 10, 3) := by decide +kernel
theorem dX5_checkPlace_9 : decode cX5_checkPlace 9 = .ok (.getfield 30, 3) := by decide +kernel
theorem dX5_checkPlace_12 : decode cX5_checkPlace 12 = .ok (.if_icmp .le 14, 3) := by decide +kernel
theorem dX5_checkPlace_15 : decode cX5_checkPlace 15 = .ok (.new 194, 3) := by decide +kernel
theorem dX5_checkPlace_18 : decode cX5_checkPlace 18 = .ok (.dup, 1) := by decide +kernel
theorem dX5_checkPlace_19 : decode cX5_checkPlace 19 = .ok (.ldc_w 281, 3) := by decide +kernel
theorem dX5_checkPlace_22 : decode cX5_checkPlace 22 = .ok (.invokespecial 198, 3) := by decide +kernel
theorem dX5_checkPlace_25 : decode cX5_checkPlace 25 = .ok (.athrow, 1) := by decide +kernel
theorem dX5_checkPlace_26 : decode cX5_checkPlace 26 = .ok (.return_, 1) := by decide +kernel
theorem dX5_checkTrip_0 : decode cX5_checkTrip 0 = .ok (.aload_n 0, 1) := by decide +kernel
theorem dX5_checkTrip_1 : decode cX5_checkTrip 1 = .ok (.getfield 10, 3) := by decide +kernel
theorem dX5_checkTrip_4 : decode cX5_checkTrip 4 = .ok (.getfield 146, 3) := by decide +kernel
theorem dX5_checkTrip_7 : decode cX5_checkTrip 7 = .ok (.invokevirtual 254, 3) := by decide +kernel
theorem dX5_checkTrip_10 : decode cX5_checkTrip 10 = .ok (.ifCond .ne 14, 3) := by decide +kernel
theorem dX5_checkTrip_13 : decode cX5_checkTrip 13 = .ok (.new 121, 3) := by decide +kernel
theorem dX5_checkTrip_16 : decode cX5_checkTrip 16 = .ok (.dup, 1) := by decide +kernel
theorem dX5_checkTrip_17 : decode cX5_checkTrip 17 = .ok (.ldc_w 283, 3) := by decide +kernel
theorem dX5_checkTrip_20 : decode cX5_checkTrip 20 = .ok (.invokespecial 125, 3) := by decide +kernel
theorem dX5_checkTrip_23 : decode cX5_checkTrip 23 = .ok (.athrow, 1) := by decide +kernel
theorem dX5_checkTrip_24 : decode cX5_checkTrip 24 = .ok (.return_, 1) := by decide +kernel
theorem dX5_request_0 : decode cX5_request 0 = .ok (.aload_n 0, 1) := by decide +kernel
theorem dX5_request_1 : decode cX5_request 1 = .ok (.getfield 10, 3) := by decide +kernel
theorem dX5_request_4 : decode cX5_request 4 = .ok (.getfield 177, 3) := by decide +kernel
theorem dX5_request_7 : decode cX5_request 7 = .ok (.getfield 191, 3) := by decide +kernel
theorem dX5_request_10 : decode cX5_request 10 = .ok (.bipush 8, 2) := by decide +kernel
theorem dX5_request_12 : decode cX5_request 12 = .ok (.if_icmp .lt 14, 3) := by decide +kernel
theorem dX5_request_15 : decode cX5_request 15 = .ok (.new 53, 3) := by decide +kernel
theorem dX5_request_18 : decode cX5_request 18 = .ok (.dup, 1) := by decide +kernel
theorem dX5_request_19 : decode cX5_request 19 = .ok (.ldc_w 285, 3) := by decide +kernel
theorem dX5_request_22 : decode cX5_request 22 = .ok (.invokespecial 57, 3) := by decide +kernel
theorem dX5_request_25 : decode cX5_request 25 = .ok (.athrow, 1) := by decide +kernel
theorem dX5_request_26 : decode cX5_request 26 = .ok (.aload_n 0, 1) := by decide +kernel
theorem dX5_request_27 : decode cX5_request 27 = .ok (.getfield 10, 3) := by decide +kernel
theorem dX5_request_30 : decode cX5_request 30 = .ok (.getfield 287, 3) := by decide +kernel
theorem dX5_request_33 : decode cX5_request 33 = .ok (.istore 4, 2) := by decide +kernel
theorem dX5_request_35 : decode cX5_request 35 = .ok (.aload_n 0, 1) := by decide +kernel
theorem dX5_request_36 : decode cX5_request 36 = .ok (.getfield 10, 3) := by decide +kernel
theorem dX5_request_39 : decode cX5_request 39 = .ok (.getfield 177, 3) := by decide +kernel
theorem dX5_request_42 : decode cX5_request 42 = .ok (.iload 4, 2) := by decide +kernel
theorem dX5_request_44 : decode cX5_request 44 = .ok (.iload_n 1, 1) := by decide +kernel
theorem dX5_request_45 : decode cX5_request 45 = .ok (.iload_n 2, 1) := by decide +kernel
theorem dX5_request_46 : decode cX5_request 46 = .ok (.iload_n 3, 1) := by decide +kernel
theorem dX5_request_47 : decode cX5_request 47 = .ok (.invokevirtual 290, 3) := by decide +kernel
theorem dX5_request_50 : decode cX5_request 50 = .ok (.aload_n 0, 1) := by decide +kernel
theorem dX5_request_51 : decode cX5_request 51 = .ok (.getfield 10, 3) := by decide +kernel
theorem dX5_request_54 : decode cX5_request 54 = .ok (.dup, 1) := by decide +kernel
theorem dX5_request_55 : decode cX5_request 55 = .ok (.getfield 287, 3) := by decide +kernel
theorem dX5_request_58 : decode cX5_request 58 = .ok (.iconst 1, 1) := by decide +kernel
theorem dX5_request_59 : decode cX5_request 59 = .ok (.iadd, 1) := by decide +kernel
theorem dX5_request_60 : decode cX5_request 60 = .ok (.putfield 287, 3) := by decide +kernel
theorem dX5_request_63 : decode cX5_request 63 = .ok (.iload 4, 2) := by decide +kernel
theorem dX5_request_65 : decode cX5_request 65 = .ok (.ireturn, 1) := by decide +kernel
