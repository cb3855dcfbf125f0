theorem dX0_init_0 : decode cX0_init 0 = .ok (.aload_n 0, 1) := by decide +kernel
theorem dX0_init_1 : decode cX0_init 1 = .ok (.invokespecial 3, 3) := by decide +kernel
theorem dX0_init_4 : decode cX0_init 4 = .ok (.aload_n 0, 1) := by decide +kernel
theorem dX0_init_5 : decode cX0_init 5 = .ok (.new 9, 3) := by decide +kernel
theorem dX0_init_8 : decode cX0_init 8 = .ok (.dup, 1) := by decide +kernel
theorem dX0_init_9 : decode cX0_init 9 = .ok (.invokespecial 11, 3) := by decide +kernel
theorem dX0_init_12 : decode cX0_init 12 = .ok (.putfield 12, 3) := by decide +kernel
theorem dX0_init_15 : decode cX0_init 15 = .ok (.aload_n 0, 1) := by decide +kernel
theorem dX0_init_16 : decode cX0_init 16 = .ok (.new 18, 3) := by decide +kernel
theorem dX0_init_19 : decode cX0_init 19 = .ok (.dup, 1) := by decide +kernel
theorem dX0_init_20 : decode cX0_init 20 = .ok (.invokespecial 20, 3) := by decide +kernel
theorem dX0_init_23 : decode cX0_init 23 = .ok (.putfield 21, 3) := by decide +kernel
theorem dX0_init_26 : decode cX0_init 26 = .ok (.aload_n 0, 1) := by decide +kernel
theorem dX0_init_27 : decode cX0_init 27 = .ok (.bipush 16, 2) := by decide +kernel
theorem dX0_init_29 : decode cX0_init 29 = .ok (.anewarray 25, 3) := by decide +kernel
theorem dX0_init_32 : decode cX0_init 32 = .ok (.putfield 27, 3) := by decide +kernel
theorem dX0_init_35 : decode cX0_init 35 = .ok (.aload_n 0, 1) := by decide +kernel
theorem dX0_init_36 : decode cX0_init 36 = .ok (.iconst 4, 1) := by decide +kernel
theorem dX0_init_37 : decode cX0_init 37 = .ok (.newarray .int, 2) := by decide +kernel
theorem dX0_init_39 : decode cX0_init 39 = .ok (.putfield 31, 3) := by decide +kernel
theorem dX0_init_42 : decode cX0_init 42 = .ok (.aload_n 0, 1) := by decide +kernel
theorem dX0_init_43 : decode cX0_init 43 = .ok (.bipush 6, 2) := by decide +kernel
theorem dX0_init_45 : decode cX0_init 45 = .ok (.newarray .int, 2) := by decide +kernel
theorem dX0_init_47 : decode cX0_init 47 = .ok (.putfield 35, 3) := by decide +kernel
theorem dX0_init_50 : decode cX0_init 50 = .ok (.aload_n 0, 1) := by decide +kernel
theorem dX0_init_51 : decode cX0_init 51 = .ok (.bipush 6, 2) := by decide +kernel
theorem dX0_init_53 : decode cX0_init 53 = .ok (.newarray .int, 2) := by decide +kernel
theorem dX0_init_55 : decode cX0_init 55 = .ok (.putfield 38, 3) := by decide +kernel
theorem dX0_init_58 : decode cX0_init 58 = .ok (.aload_n 0, 1) := by decide +kernel
theorem dX0_init_59 : decode cX0_init 59 = .ok (.iconst 3, 1) := by decide +kernel
theorem dX0_init_60 : decode cX0_init 60 = .ok (.newarray .int, 2) := by decide +kernel
theorem dX0_init_62 : decode cX0_init 62 = .ok (.putfield 41, 3) := by decide +kernel
theorem dX0_init_65 : decode cX0_init 65 = .ok (.aload_n 0, 1) := by decide +kernel
theorem dX0_init_66 : decode cX0_init 66 = .ok (.iconst 3, 1) := by decide +kernel
theorem dX0_init_67 : decode cX0_init 67 = .ok (.newarray .int, 2) := by decide +kernel
theorem dX0_init_69 : decode cX0_init 69 = .ok (.putfield 44, 3) := by decide +kernel
theorem dX0_init_72 : decode cX0_init 72 = .ok (.aload_n 0, 1) := by decide +kernel
theorem dX0_init_73 : decode cX0_init 73 = .ok (.iconst 4, 1) := by decide +kernel
theorem dX0_init_74 : decode cX0_init 74 = .ok (.newarray .int, 2) := by decide +kernel
theorem dX0_init_76 : decode cX0_init 76 = .ok (.putfield 47, 3) := by decide +kernel
theorem dX0_init_79 : decode cX0_init 79 = .ok (.iconst 0, 1) := by decide +kernel
theorem dX0_init_80 : decode cX0_init 80 = .ok (.istore_n 1, 1) := by decide +kernel
theorem dX0_init_81 : decode cX0_init 81 = .ok (.iload_n 1, 1) := by decide +kernel
theorem dX0_init_82 : decode cX0_init 82 = .ok (.bipush 16, 2) := by decide +kernel
theorem dX0_init_84 : decode cX0_init 84 = .ok (.if_icmp .ge 23, 3) := by decide +kernel
theorem dX0_init_87 : decode cX0_init 87 = .ok (.aload_n 0, 1) := by decide +kernel
theorem dX0_init_88 : decode cX0_init 88 = .ok (.getfield 27, 3) := by decide +kernel
theorem dX0_init_91 : decode cX0_init 91 = .ok (.iload_n 1, 1) := by decide +kernel
theorem dX0_init_92 : decode cX0_init 92 = .ok (.new 25, 3) := by decide +kernel
theorem dX0_init_95 : decode cX0_init 95 = .ok (.dup, 1) := by decide +kernel
theorem dX0_init_96 : decode cX0_init 96 = .ok (.iload_n 1, 1) := by decide +kernel
theorem dX0_init_97 : decode cX0_init 97 = .ok (.invokespecial 50, 3) := by decide +kernel
theorem dX0_init_100 : decode cX0_init 100 = .ok (.aastore, 1) := by decide +kernel
theorem dX0_init_101 : decode cX0_init 101 = .ok (.iinc 1 1, 3) := by decide +kernel
theorem dX0_init_104 : decode cX0_init 104 = .ok (.goto (-23), 3) := by decide +kernel
theorem dX0_init_107 : decode cX0_init 107 = .ok (.iconst 0, 1) := by decide +kernel
theorem dX0_init_108 : decode cX0_init 108 = .ok (.istore_n 1, 1) := by decide +kernel
theorem dX0_init_109 : decode cX0_init 109 = .ok (.iload_n 1, 1) := by decide +kernel
theorem dX0_init_110 : decode cX0_init 110 = .ok (.bipush 6, 2) := by decide +kernel
theorem dX0_init_112 : decode cX0_init 112 = .ok (.if_icmp .ge 16, 3) := by decide +kernel
theorem dX0_init_115 : decode cX0_init 115 = .ok (.aload_n 0, 1) := by decide +kernel
theorem dX0_init_116 : decode cX0_init 116 = .ok (.getfield 35, 3) := by decide +kernel
theorem dX0_init_119 : decode cX0_init 119 = .ok (.iload_n 1, 1) := by decide +kernel
theorem dX0_init_120 : decode cX0_init 120 = .ok (.iconst (-1), 1) := by decide +kernel
theorem dX0_init_121 : decode cX0_init 121 = .ok (.iastore, 1) := by decide +kernel
theorem dX0_init_122 : decode cX0_init 122 = .ok (.iinc 1 1, 3) := by decide +kernel
theorem dX0_init_125 : decode cX0_init 125 = .ok (.goto (-16), 3) := by decide +kernel
theorem dX0_init_128 : decode cX0_init 128 = .ok (.iconst 0, 1) := by decide +kernel
theorem dX0_init_129 : decode cX0_init 129 = .ok (.istore_n 1, 1) := by decide +kernel
theorem dX0_init_130 : decode cX0_init 130 = .ok (.iload_n 1, 1) := by decide +kernel
theorem dX0_init_131 : decode cX0_init 131 = .ok (.iconst 3, 1) := by decide +kernel
theorem dX0_init_132 : decode cX0_init 132 = .ok (.if_icmp .ge 16, 3) := by decide +kernel
theorem dX0_init_135 : decode cX0_init 135 = .ok (.aload_n 0, 1) := by decide +kernel
theorem dX0_init_136 : decode cX0_init 136 = .ok (.getfield 41, 3) := by decide +kernel
theorem dX0_init_139 : decode cX0_init 139 = .ok (.iload_n 1, 1) := by decide +kernel
theorem dX0_init_140 : decode cX0_init 140 = .ok (.iconst (-1), 1) := by decide +kernel
theorem dX0_init_141 : decode cX0_init 141 = .ok (.iastore, 1) := by decide +kernel
theorem dX0_init_142 : decode cX0_init 142 = .ok (.iinc 1 1, 3) := by decide +kernel
theorem dX0_init_145 : decode cX0_init 145 = .ok (.goto (-15), 3) := by decide +kernel
theorem dX0_init_148 : decode cX0_init 148 = .ok (.return_, 1) := by decide +kernel
theorem dX0_copyFrom_0 : decode cX0_copyFrom 0 = .ok (.aload_n 0, 1) := by decide +kernel
theorem dX0_copyFrom_1 : decode cX0_copyFrom 1 = .ok (.getfield 12, 3) := by decide +kernel
theorem dX0_copyFrom_4 : decode cX0_copyFrom 4 = .ok (.aload_n 1, 1) := by decide +kernel
theorem dX0_copyFrom_5 : decode cX0_copyFrom 5 = .ok (.getfield 12, 3) := by decide +kernel
theorem dX0_copyFrom_8 : decode cX0_copyFrom 8 = .ok (.invokevirtual 53, 3) := by decide +kernel
theorem dX0_copyFrom_11 : decode cX0_copyFrom 11 = .ok (.aload_n 0, 1) := by decide +kernel
theorem dX0_copyFrom_12 : decode cX0_copyFrom 12 = .ok (.getfield 21, 3) := by decide +kernel
theorem dX0_copyFrom_15 : decode cX0_copyFrom 15 = .ok (.aload_n 1, 1) := by decide +kernel
theorem dX0_copyFrom_16 : decode cX0_copyFrom 16 = .ok (.getfield 21, 3) := by decide +kernel
theorem dX0_copyFrom_19 : decode cX0_copyFrom 19 = .ok (.invokevirtual 57, 3) := by decide +kernel
theorem dX0_copyFrom_22 : decode cX0_copyFrom 22 = .ok (.iconst 0, 1) := by decide +kernel
theorem dX0_copyFrom_23 : decode cX0_copyFrom 23 = .ok (.istore_n 2, 1) := by decide +kernel
theorem dX0_copyFrom_24 : decode cX0_copyFrom 24 = .ok (.iload_n 2, 1) := by decide +kernel
theorem dX0_copyFrom_25 : decode cX0_copyFrom 25 = .ok (.bipush 16, 2) := by decide +kernel
theorem dX0_copyFrom_27 : decode cX0_copyFrom 27 = .ok (.if_icmp .ge 24, 3) := by decide +kernel
theorem dX0_copyFrom_30 : decode cX0_copyFrom 30 = .ok (.aload_n 0, 1) := by decide +kernel
theorem dX0_copyFrom_31 : decode cX0_copyFrom 31 = .ok (.getfield 27, 3) := by decide +kernel
theorem dX0_copyFrom_34 : decode cX0_copyFrom 34 = .ok (.iload_n 2, 1) := by decide +kernel
theorem dX0_copyFrom_35 : decode cX0_copyFrom 35 = .ok (.aaload, 1) := by decide +kernel
theorem dX0_copyFrom_36 : decode cX0_copyFrom 36 = .ok (.aload_n 1, 1) := by decide +kernel
theorem dX0_copyFrom_37 : decode cX0_copyFrom 37 = .ok (.getfield 27, 3) := by decide +kernel
theorem dX0_copyFrom_40 : decode cX0_copyFrom 40 = .ok (.iload_n 2, 1) := by decide +kernel
theorem dX0_copyFrom_41 : decode cX0_copyFrom 41 = .ok (.aaload, 1) := by decide +kernel
theorem dX0_copyFrom_42 : decode cX0_copyFrom 42 = .ok (.invokevirtual 60, 3) := by decide +kernel
theorem dX0_copyFrom_45 : decode cX0_copyFrom 45 = .ok (.iinc 2 1, 3) := by decide +kernel
theorem dX0_copyFrom_48 : decode cX0_copyFrom 48 = .ok (.goto (-24), 3) := by decide +kernel
theorem dX0_copyFrom_51 : decode cX0_copyFrom 51 = .ok (.aload_n 1, 1) := by decide +kernel
theorem dX0_copyFrom_52 : decode cX0_copyFrom 52 = .ok (.getfield 31, 3) := by decide +kernel
theorem dX0_copyFrom_55 : decode cX0_copyFrom 55 = .ok (.iconst 0, 1) := by decide +kernel
theorem dX0_copyFrom_56 : decode cX0_copyFrom 56 = .ok (.aload_n 0, 1) := by decide +kernel
theorem dX0_copyFrom_57 : decode cX0_copyFrom 57 = .ok (.getfield 31, 3) := by decide +kernel
theorem dX0_copyFrom_60 : decode cX0_copyFrom 60 = .ok (.iconst 0, 1) := by decide +kernel
theorem dX0_copyFrom_61 : decode cX0_copyFrom 61 = .ok (.iconst 4, 1) := by decide +kernel
theorem dX0_copyFrom_62 : decode cX0_copyFrom 62 = .ok (.invokestatic 63, 3) := by decide +kernel
theorem dX0_copyFrom_65 : decode cX0_copyFrom 65 = .ok (.aload_n 1, 1) := by decide +kernel
theorem dX0_copyFrom_66 : decode cX0_copyFrom 66 = .ok (.getfield 35, 3) := by decide +kernel
theorem dX0_copyFrom_69 : decode cX0_copyFrom 69 = .ok (.iconst 0, 1) := by decide +kernel
theorem dX0_copyFrom_70 : decode cX0_copyFrom 70 = .ok (.aload_n 0, 1) := by decide +kernel
theorem dX0_copyFrom_71 : decode cX0_copyFrom 71 = .ok (.getfield 35, 3) := by decide +kernel
theorem dX0_copyFrom_74 : decode cX0_copyFrom 74 = .ok (.iconst 0, 1) := by decide +kernel
theorem dX0_copyFrom_75 : decode cX0_copyFrom 75 = .ok (.bipush 6, 2) := by decide +kernel
theorem dX0_copyFrom_77 : decode cX0_copyFrom 77 = .ok (.invokestatic 63, 3) := by decide +kernel
theorem dX0_copyFrom_80 : decode cX0_copyFrom 80 = .ok (.aload_n 1, 1) := by decide +kernel
theorem dX0_copyFrom_81 : decode cX0_copyFrom 81 = .ok (.getfield 38, 3) := by decide +kernel
theorem dX0_copyFrom_84 : decode cX0_copyFrom 84 = .ok (.iconst 0, 1) := by decide +kernel
theorem dX0_copyFrom_85 : decode cX0_copyFrom 85 = .ok (.aload_n 0, 1) := by decide +kernel
theorem dX0_copyFrom_86 : decode cX0_copyFrom 86 = .ok (.getfield 38, 3) := by decide +kernel
theorem dX0_copyFrom_89 : decode cX0_copyFrom 89 = .ok (.iconst 0, 1) := by decide +kernel
theorem dX0_copyFrom_90 : decode cX0_copyFrom 90 = .ok (.bipush 6, 2) := by decide +kernel
theorem dX0_copyFrom_92 : decode cX0_copyFrom 92 = .ok (.invokestatic 63, 3) := by decide +kernel
theorem dX0_copyFrom_95 : decode cX0_copyFrom 95 = .ok (.aload_n 1, 1) := by decide +kernel
theorem dX0_copyFrom_96 : decode cX0_copyFrom 96 = .ok (.getfield 41, 3) := by decide +kernel
theorem dX0_copyFrom_99 : decode cX0_copyFrom 99 = .ok (.iconst 0, 1) := by decide +kernel
theorem dX0_copyFrom_100 : decode cX0_copyFrom 100 = .ok (.aload_n 0, 1) := by decide +kernel
theorem dX0_copyFrom_101 : decode cX0_copyFrom 101 = .ok (.getfield 41, 3) := by decide +kernel
theorem dX0_copyFrom_104 : decode cX0_copyFrom 104 = .ok (.iconst 0, 1) := by decide +kernel
theorem dX0_copyFrom_105 : decode cX0_copyFrom 105 = .ok (.iconst 3, 1) := by decide +kernel
theorem dX0_copyFrom_106 : decode cX0_copyFrom 106 = .ok (.invokestatic 63, 3) := by decide +kernel
theorem dX0_copyFrom_109 : decode cX0_copyFrom 109 = .ok (.aload_n 0, 1) := by decide +kernel
theorem dX0_copyFrom_110 : decode cX0_copyFrom 110 = .ok (.aload_n 1, 1) := by decide +kernel
theorem dX0_copyFrom_111 : decode cX0_copyFrom 111 = .ok (.getfield 69, 3) := by decide +kernel
theorem dX0_copyFrom_114 : decode cX0_copyFrom 114 = .ok (.putfield 69, 3) := by decide +kernel
theorem dX0_copyFrom_117 : decode cX0_copyFrom 117 = .ok (.aload_n 0, 1) := by decide +kernel
theorem dX0_copyFrom_118 : decode cX0_copyFrom 118 = .ok (.aload_n 1, 1) := by decide +kernel
theorem dX0_copyFrom_119 : decode cX0_copyFrom 119 = .ok (.getfield 73, 3) := by decide +kernel
theorem dX0_copyFrom_122 : decode cX0_copyFrom 122 = .ok (.putfield 73, 3) := by decide +kernel
theorem dX0_copyFrom_125 : decode cX0_copyFrom 125 = .ok (.aload_n 0, 1) := by decide +kernel
theorem dX0_copyFrom_126 : decode cX0_copyFrom 126 = .ok (.aload_n 1, 1) := by decide +kernel
theorem dX0_copyFrom_127 : decode cX0_copyFrom 127 = .ok (.getfield 76, 3) := by decide +kernel
theorem dX0_copyFrom_130 : decode cX0_copyFrom 130 = .ok (.putfield 76, 3) := by decide +kernel
theorem dX0_copyFrom_133 : decode cX0_copyFrom 133 = .ok (.aload_n 0, 1) := by decide +kernel
theorem dX0_copyFrom_134 : decode cX0_copyFrom 134 = .ok (.aload_n 1, 1) := by decide +kernel
theorem dX0_copyFrom_135 : decode cX0_copyFrom 135 = .ok (.getfield 79, 3) := by decide +kernel
theorem dX0_copyFrom_138 : decode cX0_copyFrom 138 = .ok (.putfield 79, 3) := by decide +kernel
theorem dX0_copyFrom_141 : decode cX0_copyFrom 141 = .ok (.return_, 1) := by decide +kernel
theorem dX0_taskAt_0 : decode cX0_taskAt 0 = .ok (.iload_n 1, 1) := by decide +kernel
theorem dX0_taskAt_1 : decode cX0_taskAt 1 = .ok (.ifCond .lt 18, 3) := by decide +kernel
theorem dX0_taskAt_4 : decode cX0_taskAt 4 = .ok (.iload_n 1, 1) := by decide +kernel
theorem dX0_taskAt_5 : decode cX0_taskAt 5 = .ok (.bipush 16, 2) := by decide +kernel
theorem dX0_taskAt_7 : decode cX0_taskAt 7 = .ok (.if_icmp .ge 12, 3) := by decide +kernel
theorem dX0_taskAt_10 : decode cX0_taskAt 10 = .ok (.aload_n 0, 1) := by decide +kernel
theorem dX0_taskAt_11 : decode cX0_taskAt 11 = .ok (.getfield 27, 3) := by decide +kernel
theorem dX0_taskAt_14 : decode cX0_taskAt 14 = .ok (.iload_n 1, 1) := by decide +kernel
theorem dX0_taskAt_15 : decode cX0_taskAt 15 = .ok (.aaload, 1) := by decide +kernel
theorem dX0_taskAt_16 : decode cX0_taskAt 16 = .ok (.goto 4, 3) := by decide +kernel
theorem dX0_taskAt_19 : decode cX0_taskAt 19 = .ok (.aconst_null, 1) := by decide +kernel
theorem dX0_taskAt_20 : decode cX0_taskAt 20 = .ok (.areturn, 1) := by decide +kernel
theorem dX0_onProcessor_0 : decode cX0_onProcessor 0 = .ok (.iload_n 1, 1) := by decide +kernel
theorem dX0_onProcessor_1 : decode cX0_onProcessor 1 = .ok (.ifCond .lt 17, 3) := by decide +kernel
theorem dX0_onProcessor_4 : decode cX0_onProcessor 4 = .ok (.iload_n 1, 1) := by decide +kernel
theorem dX0_onProcessor_5 : decode cX0_onProcessor 5 = .ok (.iconst 3, 1) := by decide +kernel
theorem dX0_onProcessor_6 : decode cX0_onProcessor 6 = .ok (.if_icmp .ge 12, 3) := by decide +kernel
theorem dX0_onProcessor_9 : decode cX0_onProcessor 9 = .ok (.aload_n 0, 1) := by decide +kernel
theorem dX0_onProcessor_10 : decode cX0_onProcessor 10 = .ok (.getfield 41, 3) := by decide +kernel
theorem dX0_onProcessor_13 : decode cX0_onProcessor 13 = .ok (.iload_n 1, 1) := by decide +kernel
theorem dX0_onProcessor_14 : decode cX0_onProcessor 14 = .ok (.iaload, 1) := by decide +kernel
theorem dX0_onProcessor_15 : decode cX0_onProcessor 15 = .ok (.goto 4, 3) := by decide +kernel
theorem dX0_onProcessor_18 : decode cX0_onProcessor 18 = .ok (.iconst (-1), 1) := by decide +kernel
theorem dX0_onProcessor_19 : decode cX0_onProcessor 19 = .ok (.ireturn, 1) := by decide +kernel
theorem dX0_holderOf_0 : decode cX0_holderOf 0 = .ok (.iload_n 1, 1) := by decide +kernel
theorem dX0_holderOf_1 : decode cX0_holderOf 1 = .ok (.ifCond .lt 18, 3) := by decide +kernel
theorem dX0_holderOf_4 : decode cX0_holderOf 4 = .ok (.iload_n 1, 1) := by decide +kernel
theorem dX0_holderOf_5 : decode cX0_holderOf 5 = .ok (.bipush 6, 2) := by decide +kernel
theorem dX0_holderOf_7 : decode cX0_holderOf 7 = .ok (.if_icmp .ge 12, 3) := by decide +kernel
theorem dX0_holderOf_10 : decode cX0_holderOf 10 = .ok (.aload_n 0, 1) := by decide +kernel
theorem dX0_holderOf_11 : decode cX0_holderOf 11 = .ok (.getfield 35, 3) := by decide +kernel
theorem dX0_holderOf_14 : decode cX0_holderOf 14 = .ok (.iload_n 1, 1) := by decide +kernel
theorem dX0_holderOf_15 : decode cX0_holderOf 15 = .ok (.iaload, 1) := by decide +kernel
theorem dX0_holderOf_16 : decode cX0_holderOf 16 = .ok (.goto 4, 3) := by decide +kernel
theorem dX0_holderOf_19 : decode cX0_holderOf 19 = .ok (.iconst (-1), 1) := by decide +kernel
theorem dX0_holderOf_20 : decode cX0_holderOf 20 = .ok (.ireturn, 1) := by decide +kernel
theorem dX0_numberOf_0 : decode cX0_numberOf 0 = .ok (.iload_n 1, 1) := by decide +kernel
theorem dX0_numberOf_1 : decode cX0_numberOf 1 = .ok (.ifCond .lt 18, 3) := by decide +kernel
theorem dX0_numberOf_4 : decode cX0_numberOf 4 = .ok (.iload_n 1, 1) := by decide +kernel
theorem dX0_numberOf_5 : decode cX0_numberOf 5 = .ok (.bipush 6, 2) := by decide +kernel
theorem dX0_numberOf_7 : decode cX0_numberOf 7 = .ok (.if_icmp .ge 12, 3) := by decide +kernel
theorem dX0_numberOf_10 : decode cX0_numberOf 10 = .ok (.aload_n 0, 1) := by decide +kernel
theorem dX0_numberOf_11 : decode cX0_numberOf 11 = .ok (.getfield 38, 3) := by decide +kernel
theorem dX0_numberOf_14 : decode cX0_numberOf 14 = .ok (.iload_n 1, 1) := by decide +kernel
theorem dX0_numberOf_15 : decode cX0_numberOf 15 = .ok (.iaload, 1) := by decide +kernel
theorem dX0_numberOf_16 : decode cX0_numberOf 16 = .ok (.goto 4, 3) := by decide +kernel
theorem dX0_numberOf_19 : decode cX0_numberOf 19 = .ok (.iconst 0, 1) := by decide +kernel
theorem dX0_numberOf_20 : decode cX0_numberOf 20 = .ok (.ireturn, 1) := by decide +kernel
theorem dX0_tasksIn_0 : decode cX0_tasksIn 0 = .ok (.iconst 0, 1) := by decide +kernel
theorem dX0_tasksIn_1 : decode cX0_tasksIn 1 = .ok (.istore_n 2, 1) := by decide +kernel
theorem dX0_tasksIn_2 : decode cX0_tasksIn 2 = .ok (.aload_n 0, 1) := by decide +kernel
theorem dX0_tasksIn_3 : decode cX0_tasksIn 3 = .ok (.getfield 27, 3) := by decide +kernel
theorem dX0_tasksIn_6 : decode cX0_tasksIn 6 = .ok (.astore_n 3, 1) := by decide +kernel
theorem dX0_tasksIn_7 : decode cX0_tasksIn 7 = .ok (.aload_n 3, 1) := by decide +kernel
theorem dX0_tasksIn_8 : decode cX0_tasksIn 8 = .ok (.arraylength, 1) := by decide +kernel
theorem dX0_tasksIn_9 : decode cX0_tasksIn 9 = .ok (.istore 4, 2) := by decide +kernel
theorem dX0_tasksIn_11 : decode cX0_tasksIn 11 = .ok (.iconst 0, 1) := by decide +kernel
theorem dX0_tasksIn_12 : decode cX0_tasksIn 12 = .ok (.istore 5, 2) := by decide +kernel
theorem dX0_tasksIn_14 : decode cX0_tasksIn 14 = .ok (.iload 5, 2) := by decide +kernel
theorem dX0_tasksIn_16 : decode cX0_tasksIn 16 = .ok (.iload 4, 2) := by decide +kernel
theorem dX0_tasksIn_18 : decode cX0_tasksIn 18 = .ok (.if_icmp .ge 34, 3) := by decide +kernel
theorem dX0_tasksIn_21 : decode cX0_tasksIn 21 = .ok (.aload_n 3, 1) := by decide +kernel
theorem dX0_tasksIn_22 : decode cX0_tasksIn 22 = .ok (.iload 5, 2) := by decide +kernel
theorem dX0_tasksIn_24 : decode cX0_tasksIn 24 = .ok (.aaload, 1) := by decide +kernel
theorem dX0_tasksIn_25 : decode cX0_tasksIn 25 = .ok (.astore 6, 2) := by decide +kernel
theorem dX0_tasksIn_27 : decode cX0_tasksIn 27 = .ok (.aload 6, 2) := by decide +kernel
theorem dX0_tasksIn_29 : decode cX0_tasksIn 29 = .ok (.getfield 82, 3) := by decide +kernel
theorem dX0_tasksIn_32 : decode cX0_tasksIn 32 = .ok (.iload_n 1, 1) := by decide +kernel
theorem dX0_tasksIn_33 : decode cX0_tasksIn 33 = .ok (.if_icmp .ne 13, 3) := by decide +kernel
theorem dX0_tasksIn_36 : decode cX0_tasksIn 36 = .ok (.iload_n 2, 1) := by decide +kernel
theorem dX0_tasksIn_37 : decode cX0_tasksIn 37 = .ok (.iconst 1, 1) := by decide +kernel
theorem dX0_tasksIn_38 : decode cX0_tasksIn 38 = .ok (.aload 6, 2) := by decide +kernel
theorem dX0_tasksIn_40 : decode cX0_tasksIn 40 = .ok (.getfield 85, 3) := by decide +kernel
theorem dX0_tasksIn_43 : decode cX0_tasksIn 43 = .ok (.ishl, 1) := by decide +kernel
theorem dX0_tasksIn_44 : decode cX0_tasksIn 44 = .ok (.ior, 1) := by decide +kernel
theorem dX0_tasksIn_45 : decode cX0_tasksIn 45 = .ok (.istore_n 2, 1) := by decide +kernel
theorem dX0_tasksIn_46 : decode cX0_tasksIn 46 = .ok (.iinc 5 1, 3) := by decide +kernel
theorem dX0_tasksIn_49 : decode cX0_tasksIn 49 = .ok (.goto (-35), 3) := by decide +kernel
theorem dX0_tasksIn_52 : decode cX0_tasksIn 52 = .ok (.iload_n 2, 1) := by decide +kernel
theorem dX0_tasksIn_53 : decode cX0_tasksIn 53 = .ok (.ireturn, 1) := by decide +kernel
theorem dX0_waitersAt_0 : decode cX0_waitersAt 0 = .ok (.iconst 0, 1) := by decide +kernel
theorem dX0_waitersAt_1 : decode cX0_waitersAt 1 = .ok (.istore_n 3, 1) := by decide +kernel
theorem dX0_waitersAt_2 : decode cX0_waitersAt 2 = .ok (.aload_n 0, 1) := by decide +kernel
theorem dX0_waitersAt_3 : decode cX0_waitersAt 3 = .ok (.getfield 27, 3) := by decide +kernel
theorem dX0_waitersAt_6 : decode cX0_waitersAt 6 = .ok (.astore 4, 2) := by decide +kernel
theorem dX0_waitersAt_8 : decode cX0_waitersAt 8 = .ok (.aload 4, 2) := by decide +kernel
theorem dX0_waitersAt_10 : decode cX0_waitersAt 10 = .ok (.arraylength, 1) := by decide +kernel
theorem dX0_waitersAt_11 : decode cX0_waitersAt 11 = .ok (.istore 5, 2) := by decide +kernel
theorem dX0_waitersAt_13 : decode cX0_waitersAt 13 = .ok (.iconst 0, 1) := by decide +kernel
theorem dX0_waitersAt_14 : decode cX0_waitersAt 14 = .ok (.istore 6, 2) := by decide +kernel
theorem dX0_waitersAt_16 : decode cX0_waitersAt 16 = .ok (.iload 6, 2) := by decide +kernel
theorem dX0_waitersAt_18 : decode cX0_waitersAt 18 = .ok (.iload 5, 2) := by decide +kernel
theorem dX0_waitersAt_20 : decode cX0_waitersAt 20 = .ok (.if_icmp .ge 36, 3) := by decide +kernel
theorem dX0_waitersAt_23 : decode cX0_waitersAt 23 = .ok (.aload 4, 2) := by decide +kernel
theorem dX0_waitersAt_25 : decode cX0_waitersAt 25 = .ok (.iload 6, 2) := by decide +kernel
theorem dX0_waitersAt_27 : decode cX0_waitersAt 27 = .ok (.aaload, 1) := by decide +kernel
theorem dX0_waitersAt_28 : decode cX0_waitersAt 28 = .ok (.astore 7, 2) := by decide +kernel
theorem dX0_waitersAt_30 : decode cX0_waitersAt 30 = .ok (.aload 7, 2) := by decide +kernel
theorem dX0_waitersAt_32 : decode cX0_waitersAt 32 = .ok (.iload_n 1, 1) := by decide +kernel
theorem dX0_waitersAt_33 : decode cX0_waitersAt 33 = .ok (.iload_n 2, 1) := by decide +kernel
theorem dX0_waitersAt_34 : decode cX0_waitersAt 34 = .ok (.invokevirtual 88, 3) := by decide +kernel
theorem dX0_waitersAt_37 : decode cX0_waitersAt 37 = .ok (.ifCond .eq 13, 3) := by decide +kernel
theorem dX0_waitersAt_40 : decode cX0_waitersAt 40 = .ok (.iload_n 3, 1) := by decide +kernel
theorem dX0_waitersAt_41 : decode cX0_waitersAt 41 = .ok (.iconst 1, 1) := by decide +kernel
theorem dX0_waitersAt_42 : decode cX0_waitersAt 42 = .ok (.aload 7, 2) := by decide +kernel
theorem dX0_waitersAt_44 : decode cX0_waitersAt 44 = .ok (.getfield 85, 3) := by decide +kernel
theorem dX0_waitersAt_47 : decode cX0_waitersAt 47 = .ok (.ishl, 1) := by decide +kernel
theorem dX0_waitersAt_48 : decode cX0_waitersAt 48 = .ok (.ior, 1) := by decide +kernel
theorem dX0_waitersAt_49 : decode cX0_waitersAt 49 = .ok (.istore_n 3, 1) := by decide +kernel
theorem dX0_waitersAt_50 : decode cX0_waitersAt 50 = .ok (.iinc 6 1, 3) := by decide +kernel
theorem dX0_waitersAt_53 : decode cX0_waitersAt 53 = .ok (.goto (-37), 3) := by decide +kernel
theorem dX0_waitersAt_56 : decode cX0_waitersAt 56 = .ok (.iload_n 3, 1) := by decide +kernel
theorem dX0_waitersAt_57 : decode cX0_waitersAt 57 = .ok (.ireturn, 1) := by decide +kernel
theorem dX0_stuckTasks_0 : decode cX0_stuckTasks 0 = .ok (.iconst 0, 1) := by decide +kernel
theorem dX0_stuckTasks_1 : decode cX0_stuckTasks 1 = .ok (.istore_n 1, 1) := by decide +kernel
theorem dX0_stuckTasks_2 : decode cX0_stuckTasks 2 = .ok (.aload_n 0, 1) := by decide +kernel
theorem dX0_stuckTasks_3 : decode cX0_stuckTasks 3 = .ok (.getfield 27, 3) := by decide +kernel
theorem dX0_stuckTasks_6 : decode cX0_stuckTasks 6 = .ok (.astore_n 2, 1) := by decide +kernel
theorem dX0_stuckTasks_7 : decode cX0_stuckTasks 7 = .ok (.aload_n 2, 1) := by decide +kernel
theorem dX0_stuckTasks_8 : decode cX0_stuckTasks 8 = .ok (.arraylength, 1) := by decide +kernel
theorem dX0_stuckTasks_9 : decode cX0_stuckTasks 9 = .ok (.istore_n 3, 1) := by decide +kernel
theorem dX0_stuckTasks_10 : decode cX0_stuckTasks 10 = .ok (.iconst 0, 1) := by decide +kernel
theorem dX0_stuckTasks_11 : decode cX0_stuckTasks 11 = .ok (.istore 4, 2) := by decide +kernel
theorem dX0_stuckTasks_13 : decode cX0_stuckTasks 13 = .ok (.iload 4, 2) := by decide +kernel
theorem dX0_stuckTasks_15 : decode cX0_stuckTasks 15 = .ok (.iload_n 3, 1) := by decide +kernel
theorem dX0_stuckTasks_16 : decode cX0_stuckTasks 16 = .ok (.if_icmp .ge 34, 3) := by decide +kernel
theorem dX0_stuckTasks_19 : decode cX0_stuckTasks 19 = .ok (.aload_n 2, 1) := by decide +kernel
theorem dX0_stuckTasks_20 : decode cX0_stuckTasks 20 = .ok (.iload 4, 2) := by decide +kernel
theorem dX0_stuckTasks_22 : decode cX0_stuckTasks 22 = .ok (.aaload, 1) := by decide +kernel
theorem dX0_stuckTasks_23 : decode cX0_stuckTasks 23 = .ok (.astore 5, 2) := by decide +kernel
theorem dX0_stuckTasks_25 : decode cX0_stuckTasks 25 = .ok (.aload_n 0, 1) := by decide +kernel
theorem dX0_stuckTasks_26 : decode cX0_stuckTasks 26 = .ok (.aload 5, 2) := by decide +kernel
theorem dX0_stuckTasks_28 : decode cX0_stuckTasks 28 = .ok (.invokevirtual 92, 3) := by decide +kernel
theorem dX0_stuckTasks_31 : decode cX0_stuckTasks 31 = .ok (.ifCond .eq 13, 3) := by decide +kernel
theorem dX0_stuckTasks_34 : decode cX0_stuckTasks 34 = .ok (.iload_n 1, 1) := by decide +kernel
theorem dX0_stuckTasks_35 : decode cX0_stuckTasks 35 = .ok (.iconst 1, 1) := by decide +kernel
theorem dX0_stuckTasks_36 : decode cX0_stuckTasks 36 = .ok (.aload 5, 2) := by decide +kernel
theorem dX0_stuckTasks_38 : decode cX0_stuckTasks 38 = .ok (.getfield 85, 3) := by decide +kernel
theorem dX0_stuckTasks_41 : decode cX0_stuckTasks 41 = .ok (.ishl, 1) := by decide +kernel
theorem dX0_stuckTasks_42 : decode cX0_stuckTasks 42 = .ok (.ior, 1) := by decide +kernel
theorem dX0_stuckTasks_43 : decode cX0_stuckTasks 43 = .ok (.istore_n 1, 1) := by decide +kernel
theorem dX0_stuckTasks_44 : decode cX0_stuckTasks 44 = .ok (.iinc 4 1, 3) := by decide +kernel
theorem dX0_stuckTasks_47 : decode cX0_stuckTasks 47 = .ok (.goto (-34), 3) := by decide +kernel
theorem dX0_stuckTasks_50 : decode cX0_stuckTasks 50 = .ok (.iload_n 1, 1) := by decide +kernel
theorem dX0_stuckTasks_51 : decode cX0_stuckTasks 51 = .ok (.ireturn, 1) := by decide +kernel
theorem dX0_isStuck_0 : decode cX0_isStuck 0 = .ok (.aload_n 1, 1) := by decide +kernel
theorem dX0_isStuck_1 : decode cX0_isStuck 1 = .ok (.astore_n 2, 1) := by decide +kernel
theorem dX0_isStuck_2 : decode cX0_isStuck 2 = .ok (.iconst 0, 1) := by decide +kernel
theorem dX0_isStuck_3 : decode cX0_isStuck 3 = .ok (.istore_n 3, 1) := by decide +kernel
theorem dX0_isStuck_4 : decode cX0_isStuck 4 = .ok (.iload_n 3, 1) := by decide +kernel
theorem dX0_isStuck_5 : decode cX0_isStuck 5 = .ok (.bipush 16, 2) := by decide +kernel
theorem dX0_isStuck_7 : decode cX0_isStuck 7 = .ok (.if_icmp .ge 36, 3) := by decide +kernel
theorem dX0_isStuck_10 : decode cX0_isStuck 10 = .ok (.aload_n 2, 1) := by decide +kernel
theorem dX0_isStuck_11 : decode cX0_isStuck 11 = .ok (.ifnull 11, 3) := by decide +kernel
theorem dX0_isStuck_14 : decode cX0_isStuck 14 = .ok (.aload_n 2, 1) := by decide +kernel
theorem dX0_isStuck_15 : decode cX0_isStuck 15 = .ok (.getfield 82, 3) := by decide +kernel
theorem dX0_isStuck_18 : decode cX0_isStuck 18 = .ok (.iconst 4, 1) := by decide +kernel
theorem dX0_isStuck_19 : decode cX0_isStuck 19 = .ok (.if_icmp .eq 5, 3) := by decide +kernel
theorem dX0_isStuck_22 : decode cX0_isStuck 22 = .ok (.iconst 0, 1) := by decide +kernel
theorem dX0_isStuck_23 : decode cX0_isStuck 23 = .ok (.ireturn, 1) := by decide +kernel
theorem dX0_isStuck_24 : decode cX0_isStuck 24 = .ok (.aload_n 0, 1) := by decide +kernel
theorem dX0_isStuck_25 : decode cX0_isStuck 25 = .ok (.aload_n 0, 1) := by decide +kernel
theorem dX0_isStuck_26 : decode cX0_isStuck 26 = .ok (.aload_n 2, 1) := by decide +kernel
theorem dX0_isStuck_27 : decode cX0_isStuck 27 = .ok (.getfield 96, 3) := by decide +kernel
theorem dX0_isStuck_30 : decode cX0_isStuck 30 = .ok (.invokevirtual 99, 3) := by decide +kernel
theorem dX0_isStuck_33 : decode cX0_isStuck 33 = .ok (.invokevirtual 103, 3) := by decide +kernel
theorem dX0_isStuck_36 : decode cX0_isStuck 36 = .ok (.astore_n 2, 1) := by decide +kernel
theorem dX0_isStuck_37 : decode cX0_isStuck 37 = .ok (.iinc 3 1, 3) := by decide +kernel
theorem dX0_isStuck_40 : decode cX0_isStuck 40 = .ok (.goto (-36), 3) := by decide +kernel
theorem dX0_isStuck_43 : decode cX0_isStuck 43 = .ok (.aload_n 2, 1) := by decide +kernel
theorem dX0_isStuck_44 : decode cX0_isStuck 44 = .ok (.ifnull 15, 3) := by decide +kernel
theorem dX0_isStuck_47 : decode cX0_isStuck 47 = .ok (.aload_n 2, 1) := by decide +kernel
theorem dX0_isStuck_48 : decode cX0_isStuck 48 = .ok (.getfield 82, 3) := by decide +kernel
theorem dX0_isStuck_51 : decode cX0_isStuck 51 = .ok (.iconst 4, 1) := by decide +kernel
theorem dX0_isStuck_52 : decode cX0_isStuck 52 = .ok (.if_icmp .ne 7, 3) := by decide +kernel
theorem dX0_isStuck_55 : decode cX0_isStuck 55 = .ok (.iconst 1, 1) := by decide +kernel
theorem dX0_isStuck_56 : decode cX0_isStuck 56 = .ok (.goto 4, 3) := by decide +kernel
theorem dX0_isStuck_59 : decode cX0_isStuck 59 = .ok (.iconst 0, 1) := by decide +kernel
theorem dX0_isStuck_60 : decode cX0_isStuck 60 = .ok (.ireturn, 1) := by decide +kernel
theorem dX0_findLentKeys_0 : decode cX0_findLentKeys 0 = .ok (.aload_n 0, 1) := by decide +kernel
theorem dX0_findLentKeys_1 : decode cX0_findLentKeys 1 = .ok (.getfield 27, 3) := by decide +kernel
theorem dX0_findLentKeys_4 : decode cX0_findLentKeys 4 = .ok (.astore_n 1, 1) := by decide +kernel
theorem dX0_findLentKeys_5 : decode cX0_findLentKeys 5 = .ok (.aload_n 1, 1) := by decide +kernel
theorem dX0_findLentKeys_6 : decode cX0_findLentKeys 6 = .ok (.arraylength, 1) := by decide +kernel
theorem dX0_findLentKeys_7 : decode cX0_findLentKeys 7 = .ok (.istore_n 2, 1) := by decide +kernel
theorem dX0_findLentKeys_8 : decode cX0_findLentKeys 8 = .ok (.iconst 0, 1) := by decide +kernel
theorem dX0_findLentKeys_9 : decode cX0_findLentKeys 9 = .ok (.istore_n 3, 1) := by decide +kernel
theorem dX0_findLentKeys_10 : decode cX0_findLentKeys 10 = .ok (.iload_n 3, 1) := by decide +kernel
theorem dX0_findLentKeys_11 : decode cX0_findLentKeys 11 = .ok (.iload_n 2, 1) := by decide +kernel
theorem dX0_findLentKeys_12 : decode cX0_findLentKeys 12 = .ok (.if_icmp .ge 31, 3) := by decide +kernel
theorem dX0_findLentKeys_15 : decode cX0_findLentKeys 15 = .ok (.aload_n 1, 1) := by decide +kernel
theorem dX0_findLentKeys_16 : decode cX0_findLentKeys 16 = .ok (.iload_n 3, 1) := by decide +kernel
theorem dX0_findLentKeys_17 : decode cX0_findLentKeys 17 = .ok (.aaload, 1) := by decide +kernel
theorem dX0_findLentKeys_18 : decode cX0_findLentKeys 18 = .ok (.astore 4, 2) := by decide +kernel
theorem dX0_findLentKeys_20 : decode cX0_findLentKeys 20 = .ok (.aload 4, 2) := by decide +kernel
theorem dX0_findLentKeys_22 : decode cX0_findLentKeys 22 = .ok (.aload 4, 2) := by decide +kernel
theorem dX0_findLentKeys_24 : decode cX0_findLentKeys 24 = .ok (.aload_n 0, 1) := by decide +kernel
theorem dX0_findLentKeys_25 : decode cX0_findLentKeys 25 = .ok (.getfield 12, 3) := by decide +kernel
theorem dX0_findLentKeys_28 : decode cX0_findLentKeys 28 = .ok (.getfield 107, 3) := by decide +kernel
theorem dX0_findLentKeys_31 : decode cX0_findLentKeys 31 = .ok (.invokevirtual 110, 3) := by decide +kernel
theorem dX0_findLentKeys_34 : decode cX0_findLentKeys 34 = .ok (.putfield 113, 3) := by decide +kernel
theorem dX0_findLentKeys_37 : decode cX0_findLentKeys 37 = .ok (.iinc 3 1, 3) := by decide +kernel
theorem dX0_findLentKeys_40 : decode cX0_findLentKeys 40 = .ok (.goto (-30), 3) := by decide +kernel
theorem dX0_findLentKeys_43 : decode cX0_findLentKeys 43 = .ok (.iconst 1, 1) := by decide +kernel
theorem dX0_findLentKeys_44 : decode cX0_findLentKeys 44 = .ok (.istore_n 1, 1) := by decide +kernel
theorem dX0_findLentKeys_45 : decode cX0_findLentKeys 45 = .ok (.iconst 0, 1) := by decide +kernel
theorem dX0_findLentKeys_46 : decode cX0_findLentKeys 46 = .ok (.istore_n 2, 1) := by decide +kernel
theorem dX0_findLentKeys_47 : decode cX0_findLentKeys 47 = .ok (.iload_n 2, 1) := by decide +kernel
theorem dX0_findLentKeys_48 : decode cX0_findLentKeys 48 = .ok (.bipush 16, 2) := by decide +kernel
theorem dX0_findLentKeys_50 : decode cX0_findLentKeys 50 = .ok (.if_icmp .ge 104, 3) := by decide +kernel
theorem dX0_findLentKeys_53 : decode cX0_findLentKeys 53 = .ok (.iload_n 1, 1) := by decide +kernel
theorem dX0_findLentKeys_54 : decode cX0_findLentKeys 54 = .ok (.ifCond .eq 100, 3) := by decide +kernel
theorem dX0_findLentKeys_57 : decode cX0_findLentKeys 57 = .ok (.iconst 0, 1) := by decide +kernel
theorem dX0_findLentKeys_58 : decode cX0_findLentKeys 58 = .ok (.istore_n 1, 1) := by decide +kernel
theorem dX0_findLentKeys_59 : decode cX0_findLentKeys 59 = .ok (.aload_n 0, 1) := by decide +kernel
theorem dX0_findLentKeys_60 : decode cX0_findLentKeys 60 = .ok (.getfield 27, 3) := by decide +kernel
theorem dX0_findLentKeys_63 : decode cX0_findLentKeys 63 = .ok (.astore_n 3, 1) := by decide +kernel
theorem dX0_findLentKeys_64 : decode cX0_findLentKeys 64 = .ok (.aload_n 3, 1) := by decide +kernel
theorem dX0_findLentKeys_65 : decode cX0_findLentKeys 65 = .ok (.arraylength, 1) := by decide +kernel
theorem dX0_findLentKeys_66 : decode cX0_findLentKeys 66 = .ok (.istore 4, 2) := by decide +kernel
theorem dX0_findLentKeys_68 : decode cX0_findLentKeys 68 = .ok (.iconst 0, 1) := by decide +kernel
theorem dX0_findLentKeys_69 : decode cX0_findLentKeys 69 = .ok (.istore 5, 2) := by decide +kernel
theorem dX0_findLentKeys_71 : decode cX0_findLentKeys 71 = .ok (.iload 5, 2) := by decide +kernel
theorem dX0_findLentKeys_73 : decode cX0_findLentKeys 73 = .ok (.iload 4, 2) := by decide +kernel
theorem dX0_findLentKeys_75 : decode cX0_findLentKeys 75 = .ok (.if_icmp .ge 73, 3) := by decide +kernel
theorem dX0_findLentKeys_78 : decode cX0_findLentKeys 78 = .ok (.aload_n 3, 1) := by decide +kernel
theorem dX0_findLentKeys_79 : decode cX0_findLentKeys 79 = .ok (.iload 5, 2) := by decide +kernel
theorem dX0_findLentKeys_81 : decode cX0_findLentKeys 81 = .ok (.aaload, 1) := by decide +kernel
theorem dX0_findLentKeys_82 : decode cX0_findLentKeys 82 = .ok (.astore 6, 2) := by decide +kernel
theorem dX0_findLentKeys_84 : decode cX0_findLentKeys 84 = .ok (.aload 6, 2) := by decide +kernel
theorem dX0_findLentKeys_86 : decode cX0_findLentKeys 86 = .ok (.getfield 82, 3) := by decide +kernel
theorem dX0_findLentKeys_89 : decode cX0_findLentKeys 89 = .ok (.iconst 4, 1) := by decide +kernel
theorem dX0_findLentKeys_90 : decode cX0_findLentKeys 90 = .ok (.if_icmp .ne 19, 3) := by decide +kernel
theorem dX0_findLentKeys_93 : decode cX0_findLentKeys 93 = .ok (.aload_n 0, 1) := by decide +kernel
theorem dX0_findLentKeys_94 : decode cX0_findLentKeys 94 = .ok (.aload_n 0, 1) := by decide +kernel
theorem dX0_findLentKeys_95 : decode cX0_findLentKeys 95 = .ok (.aload 6, 2) := by decide +kernel
theorem dX0_findLentKeys_97 : decode cX0_findLentKeys 97 = .ok (.getfield 96, 3) := by decide +kernel
theorem dX0_findLentKeys_100 : decode cX0_findLentKeys 100 = .ok (.invokevirtual 99, 3) := by decide +kernel
theorem dX0_findLentKeys_103 : decode cX0_findLentKeys 103 = .ok (.invokevirtual 103, 3) := by decide +kernel
theorem dX0_findLentKeys_106 : decode cX0_findLentKeys 106 = .ok (.goto 4, 3) := by decide +kernel
theorem dX0_findLentKeys_109 : decode cX0_findLentKeys 109 = .ok (.aconst_null, 1) := by decide +kernel
theorem dX0_findLentKeys_110 : decode cX0_findLentKeys 110 = .ok (.astore 7, 2) := by decide +kernel
theorem dX0_findLentKeys_112 : decode cX0_findLentKeys 112 = .ok (.aload 7, 2) := by decide +kernel
theorem dX0_findLentKeys_114 : decode cX0_findLentKeys 114 = .ok (.ifnull 28, 3) := by decide +kernel
theorem dX0_findLentKeys_117 : decode cX0_findLentKeys 117 = .ok (.aload 6, 2) := by decide +kernel
theorem dX0_findLentKeys_119 : decode cX0_findLentKeys 119 = .ok (.getfield 113, 3) := by decide +kernel
theorem dX0_findLentKeys_122 : decode cX0_findLentKeys 122 = .ok (.aload 7, 2) := by decide +kernel
theorem dX0_findLentKeys_124 : decode cX0_findLentKeys 124 = .ok (.getfield 113, 3) := by decide +kernel
theorem dX0_findLentKeys_127 : decode cX0_findLentKeys 127 = .ok (.if_icmp .ge 15, 3) := by decide +kernel
theorem dX0_findLentKeys_130 : decode cX0_findLentKeys 130 = .ok (.aload 7, 2) := by decide +kernel
theorem dX0_findLentKeys_132 : decode cX0_findLentKeys 132 = .ok (.aload 6, 2) := by decide +kernel
theorem dX0_findLentKeys_134 : decode cX0_findLentKeys 134 = .ok (.getfield 113, 3) := by decide +kernel
theorem dX0_findLentKeys_137 : decode cX0_findLentKeys 137 = .ok (.putfield 113, 3) := by decide +kernel
theorem dX0_findLentKeys_140 : decode cX0_findLentKeys 140 = .ok (.iconst 1, 1) := by decide +kernel
theorem dX0_findLentKeys_141 : decode cX0_findLentKeys 141 = .ok (.istore_n 1, 1) := by decide +kernel
theorem dX0_findLentKeys_142 : decode cX0_findLentKeys 142 = .ok (.iinc 5 1, 3) := by decide +kernel
theorem dX0_findLentKeys_145 : decode cX0_findLentKeys 145 = .ok (.goto (-74), 3) := by decide +kernel
theorem dX0_findLentKeys_148 : decode cX0_findLentKeys 148 = .ok (.iinc 2 1, 3) := by decide +kernel
theorem dX0_findLentKeys_151 : decode cX0_findLentKeys 151 = .ok (.goto (-104), 3) := by decide +kernel
theorem dX0_findLentKeys_154 : decode cX0_findLentKeys 154 = .ok (.return_, 1) := by decide +kernel
theorem dX0_startTask_0 : decode cX0_startTask 0 = .ok (.aload_n 0, 1) := by decide +kernel
theorem dX0_startTask_1 : decode cX0_startTask 1 = .ok (.aload_n 1, 1) := by decide +kernel
theorem dX0_startTask_2 : decode cX0_startTask 2 = .ok (.invokevirtual 116, 3) := by decide +kernel
theorem dX0_startTask_5 : decode cX0_startTask 5 = .ok (.istore_n 2, 1) := by decide +kernel
theorem dX0_startTask_6 : decode cX0_startTask 6 = .ok (.aload_n 1, 1) := by decide +kernel
theorem dX0_startTask_7 : decode cX0_startTask 7 = .ok (.iload_n 2, 1) := by decide +kernel
theorem dX0_startTask_8 : decode cX0_startTask 8 = .ok (.iconst (-1), 1) := by decide +kernel
theorem dX0_startTask_9 : decode cX0_startTask 9 = .ok (.if_icmp .ne 7, 3) := by decide +kernel
theorem dX0_startTask_12 : decode cX0_startTask 12 = .ok (.iconst 0, 1) := by decide +kernel
theorem dX0_startTask_13 : decode cX0_startTask 13 = .ok (.goto 4, 3) := by decide +kernel
theorem dX0_startTask_16 : decode cX0_startTask 16 = .ok (.iload_n 2, 1) := by decide +kernel
theorem dX0_startTask_17 : decode cX0_startTask 17 = .ok (.putfield 120, 3) := by decide +kernel
theorem dX0_startTask_20 : decode cX0_startTask 20 = .ok (.aload_n 0, 1) := by decide +kernel
theorem dX0_startTask_21 : decode cX0_startTask 21 = .ok (.aload_n 1, 1) := by decide +kernel
theorem dX0_startTask_22 : decode cX0_startTask 22 = .ok (.invokevirtual 123, 3) := by decide +kernel
theorem dX0_startTask_25 : decode cX0_startTask 25 = .ok (.return_, 1) := by decide +kernel
theorem dX0_makeReady_0 : decode cX0_makeReady 0 = .ok (.aload_n 1, 1) := by decide +kernel
theorem dX0_makeReady_1 : decode cX0_makeReady 1 = .ok (.iconst 1, 1) := by decide +kernel
theorem dX0_makeReady_2 : decode cX0_makeReady 2 = .ok (.putfield 82, 3) := by decide +kernel
theorem dX0_makeReady_5 : decode cX0_makeReady 5 = .ok (.aload_n 1, 1) := by decide +kernel
theorem dX0_makeReady_6 : decode cX0_makeReady 6 = .ok (.aload_n 0, 1) := by decide +kernel
theorem dX0_makeReady_7 : decode cX0_makeReady 7 = .ok (.getfield 76, 3) := by decide +kernel
theorem dX0_makeReady_10 : decode cX0_makeReady 10 = .ok (.putfield 126, 3) := by decide +kernel
theorem dX0_makeReady_13 : decode cX0_makeReady 13 = .ok (.aload_n 0, 1) := by decide +kernel
theorem dX0_makeReady_14 : decode cX0_makeReady 14 = .ok (.dup, 1) := by decide +kernel
theorem dX0_makeReady_15 : decode cX0_makeReady 15 = .ok (.getfield 76, 3) := by decide +kernel
theorem dX0_makeReady_18 : decode cX0_makeReady 18 = .ok (.iconst 1, 1) := by decide +kernel
theorem dX0_makeReady_19 : decode cX0_makeReady 19 = .ok (.iadd, 1) := by decide +kernel
theorem dX0_makeReady_20 : decode cX0_makeReady 20 = .ok (.putfield 76, 3) := by decide +kernel
theorem dX0_makeReady_23 : decode cX0_makeReady 23 = .ok (.return_, 1) := by decide +kernel
theorem dX0_wake_0 : decode cX0_wake 0 = .ok (.aload_n 0, 1) := by decide +kernel
theorem dX0_wake_1 : decode cX0_wake 1 = .ok (.getfield 12, 3) := by decide +kernel
theorem dX0_wake_4 : decode cX0_wake 4 = .ok (.getfield 107, 3) := by decide +kernel
theorem dX0_wake_7 : decode cX0_wake 7 = .ok (.iconst 1, 1) := by decide +kernel
theorem dX0_wake_8 : decode cX0_wake 8 = .ok (.if_icmp .ne 20, 3) := by decide +kernel
theorem dX0_wake_11 : decode cX0_wake 11 = .ok (.aload_n 1, 1) := by decide +kernel
theorem dX0_wake_12 : decode cX0_wake 12 = .ok (.getfield 129, 3) := by decide +kernel
theorem dX0_wake_15 : decode cX0_wake 15 = .ok (.ifCond .le 13, 3) := by decide +kernel
theorem dX0_wake_18 : decode cX0_wake 18 = .ok (.aload_n 1, 1) := by decide +kernel
theorem dX0_wake_19 : decode cX0_wake 19 = .ok (.dup, 1) := by decide +kernel
theorem dX0_wake_20 : decode cX0_wake 20 = .ok (.getfield 129, 3) := by decide +kernel
theorem dX0_wake_23 : decode cX0_wake 23 = .ok (.iconst 1, 1) := by decide +kernel
theorem dX0_wake_24 : decode cX0_wake 24 = .ok (.isub, 1) := by decide +kernel
theorem dX0_wake_25 : decode cX0_wake 25 = .ok (.putfield 129, 3) := by decide +kernel
theorem dX0_wake_28 : decode cX0_wake 28 = .ok (.aload_n 0, 1) := by decide +kernel
theorem dX0_wake_29 : decode cX0_wake 29 = .ok (.getfield 12, 3) := by decide +kernel
theorem dX0_wake_32 : decode cX0_wake 32 = .ok (.getfield 107, 3) := by decide +kernel
theorem dX0_wake_35 : decode cX0_wake 35 = .ok (.iconst 2, 1) := by decide +kernel
theorem dX0_wake_36 : decode cX0_wake 36 = .ok (.if_icmp .ne 22, 3) := by decide +kernel
theorem dX0_wake_39 : decode cX0_wake 39 = .ok (.aload_n 0, 1) := by decide +kernel
theorem dX0_wake_40 : decode cX0_wake 40 = .ok (.aload_n 1, 1) := by decide +kernel
theorem dX0_wake_41 : decode cX0_wake 41 = .ok (.invokevirtual 116, 3) := by decide +kernel
theorem dX0_wake_44 : decode cX0_wake 44 = .ok (.istore_n 2, 1) := by decide +kernel
theorem dX0_wake_45 : decode cX0_wake 45 = .ok (.aload_n 1, 1) := by decide +kernel
theorem dX0_wake_46 : decode cX0_wake 46 = .ok (.getfield 120, 3) := by decide +kernel
theorem dX0_wake_49 : decode cX0_wake 49 = .ok (.iload_n 2, 1) := by decide +kernel
theorem dX0_wake_50 : decode cX0_wake 50 = .ok (.if_icmp .ge 8, 3) := by decide +kernel
theorem dX0_wake_53 : decode cX0_wake 53 = .ok (.aload_n 1, 1) := by decide +kernel
theorem dX0_wake_54 : decode cX0_wake 54 = .ok (.iload_n 2, 1) := by decide +kernel
theorem dX0_wake_55 : decode cX0_wake 55 = .ok (.putfield 120, 3) := by decide +kernel
theorem dX0_wake_58 : decode cX0_wake 58 = .ok (.aload_n 0, 1) := by decide +kernel
theorem dX0_wake_59 : decode cX0_wake 59 = .ok (.aload_n 1, 1) := by decide +kernel
theorem dX0_wake_60 : decode cX0_wake 60 = .ok (.invokevirtual 123, 3) := by decide +kernel
theorem dX0_wake_63 : decode cX0_wake 63 = .ok (.return_, 1) := by decide +kernel
theorem dX0_leastTimeBeside_0 : decode cX0_leastTimeBeside 0 = .ok (.iconst (-1), 1) := by decide +kernel
theorem dX0_leastTimeBeside_1 : decode cX0_leastTimeBeside 1 = .ok (.istore_n 2, 1) := by decide +kernel
theorem dX0_leastTimeBeside_2 : decode cX0_leastTimeBeside 2 = .ok (.aload_n 0, 1) := by decide +kernel
theorem dX0_leastTimeBeside_3 : decode cX0_leastTimeBeside 3 = .ok (.getfield 27, 3) := by decide +kernel
theorem dX0_leastTimeBeside_6 : decode cX0_leastTimeBeside 6 = .ok (.astore_n 3, 1) := by decide +kernel
theorem dX0_leastTimeBeside_7 : decode cX0_leastTimeBeside 7 = .ok (.aload_n 3, 1) := by decide +kernel
theorem dX0_leastTimeBeside_8 : decode cX0_leastTimeBeside 8 = .ok (.arraylength, 1) := by decide +kernel
theorem dX0_leastTimeBeside_9 : decode cX0_leastTimeBeside 9 = .ok (.istore 4, 2) := by decide +kernel
theorem dX0_leastTimeBeside_11 : decode cX0_leastTimeBeside 11 = .ok (.iconst 0, 1) := by decide +kernel
theorem dX0_leastTimeBeside_12 : decode cX0_leastTimeBeside 12 = .ok (.istore 5, 2) := by decide +kernel
theorem dX0_leastTimeBeside_14 : decode cX0_leastTimeBeside 14 = .ok (.iload 5, 2) := by decide +kernel
theorem dX0_leastTimeBeside_16 : decode cX0_leastTimeBeside 16 = .ok (.iload 4, 2) := by decide +kernel
theorem dX0_leastTimeBeside_18 : decode cX0_leastTimeBeside 18 = .ok (.if_icmp .ge 71, 3) := by decide +kernel
theorem dX0_leastTimeBeside_21 : decode cX0_leastTimeBeside 21 = .ok (.aload_n 3, 1) := by decide +kernel
theorem dX0_leastTimeBeside_22 : decode cX0_leastTimeBeside 22 = .ok (.iload 5, 2) := by decide +kernel
theorem dX0_leastTimeBeside_24 : decode cX0_leastTimeBeside 24 = .ok (.aaload, 1) := by decide +kernel
theorem dX0_leastTimeBeside_25 : decode cX0_leastTimeBeside 25 = .ok (.astore 6, 2) := by decide +kernel
theorem dX0_leastTimeBeside_27 : decode cX0_leastTimeBeside 27 = .ok (.aload 6, 2) := by decide +kernel
theorem dX0_leastTimeBeside_29 : decode cX0_leastTimeBeside 29 = .ok (.aload_n 1, 1) := by decide +kernel
theorem dX0_leastTimeBeside_30 : decode cX0_leastTimeBeside 30 = .ok (.if_acmp .eq 25, 3) := by decide +kernel
theorem dX0_leastTimeBeside_33 : decode cX0_leastTimeBeside 33 = .ok (.aload 6, 2) := by decide +kernel
theorem dX0_leastTimeBeside_35 : decode cX0_leastTimeBeside 35 = .ok (.getfield 82, 3) := by decide +kernel
theorem dX0_leastTimeBeside_38 : decode cX0_leastTimeBeside 38 = .ok (.iconst 1, 1) := by decide +kernel
theorem dX0_leastTimeBeside_39 : decode cX0_leastTimeBeside 39 = .ok (.if_icmp .eq 12, 3) := by decide +kernel
theorem dX0_leastTimeBeside_42 : decode cX0_leastTimeBeside 42 = .ok (.aload 6, 2) := by decide +kernel
theorem dX0_leastTimeBeside_44 : decode cX0_leastTimeBeside 44 = .ok (.getfield 82, 3) := by decide +kernel
theorem dX0_leastTimeBeside_47 : decode cX0_leastTimeBeside 47 = .ok (.iconst 2, 1) := by decide +kernel
theorem dX0_leastTimeBeside_48 : decode cX0_leastTimeBeside 48 = .ok (.if_icmp .ne 7, 3) := by decide +kernel
theorem dX0_leastTimeBeside_51 : decode cX0_leastTimeBeside 51 = .ok (.iconst 1, 1) := by decide +kernel
theorem dX0_leastTimeBeside_52 : decode cX0_leastTimeBeside 52 = .ok (.goto 4, 3) := by decide +kernel
theorem dX0_leastTimeBeside_55 : decode cX0_leastTimeBeside 55 = .ok (.iconst 0, 1) := by decide +kernel
theorem dX0_leastTimeBeside_56 : decode cX0_leastTimeBeside 56 = .ok (.istore 7, 2) := by decide +kernel
theorem dX0_leastTimeBeside_58 : decode cX0_leastTimeBeside 58 = .ok (.iload 7, 2) := by decide +kernel
theorem dX0_leastTimeBeside_60 : decode cX0_leastTimeBeside 60 = .ok (.ifCond .eq 23, 3) := by decide +kernel
theorem dX0_leastTimeBeside_63 : decode cX0_leastTimeBeside 63 = .ok (.iload_n 2, 1) := by decide +kernel
theorem dX0_leastTimeBeside_64 : decode cX0_leastTimeBeside 64 = .ok (.iconst (-1), 1) := by decide +kernel
theorem dX0_leastTimeBeside_65 : decode cX0_leastTimeBeside 65 = .ok (.if_icmp .eq 12, 3) := by decide +kernel
theorem dX0_leastTimeBeside_68 : decode cX0_leastTimeBeside 68 = .ok (.aload 6, 2) := by decide +kernel
theorem dX0_leastTimeBeside_70 : decode cX0_leastTimeBeside 70 = .ok (.getfield 120, 3) := by decide +kernel
theorem dX0_leastTimeBeside_73 : decode cX0_leastTimeBeside 73 = .ok (.iload_n 2, 1) := by decide +kernel
theorem dX0_leastTimeBeside_74 : decode cX0_leastTimeBeside 74 = .ok (.if_icmp .ge 9, 3) := by decide +kernel
theorem dX0_leastTimeBeside_77 : decode cX0_leastTimeBeside 77 = .ok (.aload 6, 2) := by decide +kernel
theorem dX0_leastTimeBeside_79 : decode cX0_leastTimeBeside 79 = .ok (.getfield 120, 3) := by decide +kernel
theorem dX0_leastTimeBeside_82 : decode cX0_leastTimeBeside 82 = .ok (.istore_n 2, 1) := by decide +kernel
theorem dX0_leastTimeBeside_83 : decode cX0_leastTimeBeside 83 = .ok (.iinc 5 1, 3) := by decide +kernel
theorem dX0_leastTimeBeside_86 : decode cX0_leastTimeBeside 86 = .ok (.goto (-72), 3) := by decide +kernel
theorem dX0_leastTimeBeside_89 : decode cX0_leastTimeBeside 89 = .ok (.iload_n 2, 1) := by decide +kernel
theorem dX0_leastTimeBeside_90 : decode cX0_leastTimeBeside 90 = .ok (.ireturn, 1) := by decide +kernel
theorem dX0_leaveProcessor_0 : decode cX0_leaveProcessor 0 = .ok (.iconst 0, 1) := by decide +kernel
theorem dX0_leaveProcessor_1 : decode cX0_leaveProcessor 1 = .ok (.istore_n 2, 1) := by decide +kernel
theorem dX0_leaveProcessor_2 : decode cX0_leaveProcessor 2 = .ok (.iload_n 2, 1) := by decide +kernel
theorem dX0_leaveProcessor_3 : decode cX0_leaveProcessor 3 = .ok (.iconst 3, 1) := by decide +kernel
theorem dX0_leaveProcessor_4 : decode cX0_leaveProcessor 4 = .ok (.if_icmp .ge 29, 3) := by decide +kernel
theorem dX0_leaveProcessor_7 : decode cX0_leaveProcessor 7 = .ok (.aload_n 0, 1) := by decide +kernel
theorem dX0_leaveProcessor_8 : decode cX0_leaveProcessor 8 = .ok (.getfield 41, 3) := by decide +kernel
theorem dX0_leaveProcessor_11 : decode cX0_leaveProcessor 11 = .ok (.iload_n 2, 1) := by decide +kernel
theorem dX0_leaveProcessor_12 : decode cX0_leaveProcessor 12 = .ok (.iaload, 1) := by decide +kernel
theorem dX0_leaveProcessor_13 : decode cX0_leaveProcessor 13 = .ok (.aload_n 1, 1) := by decide +kernel
theorem dX0_leaveProcessor_14 : decode cX0_leaveProcessor 14 = .ok (.getfield 85, 3) := by decide +kernel
theorem dX0_leaveProcessor_17 : decode cX0_leaveProcessor 17 = .ok (.if_icmp .ne 10, 3) := by decide +kernel
theorem dX0_leaveProcessor_20 : decode cX0_leaveProcessor 20 = .ok (.aload_n 0, 1) := by decide +kernel
theorem dX0_leaveProcessor_21 : decode cX0_leaveProcessor 21 = .ok (.getfield 41, 3) := by decide +kernel
theorem dX0_leaveProcessor_24 : decode cX0_leaveProcessor 24 = .ok (.iload_n 2, 1) := by decide +kernel
theorem dX0_leaveProcessor_25 : decode cX0_leaveProcessor 25 = .ok (.iconst (-1), 1) := by decide +kernel
theorem dX0_leaveProcessor_26 : decode cX0_leaveProcessor 26 = .ok (.iastore, 1) := by decide +kernel
theorem dX0_leaveProcessor_27 : decode cX0_leaveProcessor 27 = .ok (.iinc 2 1, 3) := by decide +kernel
theorem dX0_leaveProcessor_30 : decode cX0_leaveProcessor 30 = .ok (.goto (-28), 3) := by decide +kernel
theorem dX0_leaveProcessor_33 : decode cX0_leaveProcessor 33 = .ok (.return_, 1) := by decide +kernel
theorem dX0_clearProcessors_0 : decode cX0_clearProcessors 0 = .ok (.iconst 0, 1) := by decide +kernel
theorem dX0_clearProcessors_1 : decode cX0_clearProcessors 1 = .ok (.istore_n 1, 1) := by decide +kernel
theorem dX0_clearProcessors_2 : decode cX0_clearProcessors 2 = .ok (.iload_n 1, 1) := by decide +kernel
theorem dX0_clearProcessors_3 : decode cX0_clearProcessors 3 = .ok (.iconst 3, 1) := by decide +kernel
theorem dX0_clearProcessors_4 : decode cX0_clearProcessors 4 = .ok (.if_icmp .ge 16, 3) := by decide +kernel
theorem dX0_clearProcessors_7 : decode cX0_clearProcessors 7 = .ok (.aload_n 0, 1) := by decide +kernel
theorem dX0_clearProcessors_8 : decode cX0_clearProcessors 8 = .ok (.getfield 41, 3) := by decide +kernel
theorem dX0_clearProcessors_11 : decode cX0_clearProcessors 11 = .ok (.iload_n 1, 1) := by decide +kernel
theorem dX0_clearProcessors_12 : decode cX0_clearProcessors 12 = .ok (.iconst (-1), 1) := by decide +kernel
theorem dX0_clearProcessors_13 : decode cX0_clearProcessors 13 = .ok (.iastore, 1) := by decide +kernel
theorem dX0_clearProcessors_14 : decode cX0_clearProcessors 14 = .ok (.iinc 1 1, 3) := by decide +kernel
theorem dX0_clearProcessors_17 : decode cX0_clearProcessors 17 = .ok (.goto (-15), 3) := by decide +kernel
theorem dX0_clearProcessors_20 : decode cX0_clearProcessors 20 = .ok (.aload_n 0, 1) := by decide +kernel
theorem dX0_clearProcessors_21 : decode cX0_clearProcessors 21 = .ok (.getfield 27, 3) := by decide +kernel
theorem dX0_clearProcessors_24 : decode cX0_clearProcessors 24 = .ok (.astore_n 1, 1) := by decide +kernel
theorem dX0_clearProcessors_25 : decode cX0_clearProcessors 25 = .ok (.aload_n 1, 1) := by decide +kernel
theorem dX0_clearProcessors_26 : decode cX0_clearProcessors 26 = .ok (.arraylength, 1) := by decide +kernel
theorem dX0_clearProcessors_27 : decode cX0_clearProcessors 27 = .ok (.istore_n 2, 1) := by decide +kernel
theorem dX0_clearProcessors_28 : decode cX0_clearProcessors 28 = .ok (.iconst 0, 1) := by decide +kernel
theorem dX0_clearProcessors_29 : decode cX0_clearProcessors 29 = .ok (.istore_n 3, 1) := by decide +kernel
theorem dX0_clearProcessors_30 : decode cX0_clearProcessors 30 = .ok (.iload_n 3, 1) := by decide +kernel
theorem dX0_clearProcessors_31 : decode cX0_clearProcessors 31 = .ok (.iload_n 2, 1) := by decide +kernel
theorem dX0_clearProcessors_32 : decode cX0_clearProcessors 32 = .ok (.if_icmp .ge 29, 3) := by decide +kernel
theorem dX0_clearProcessors_35 : decode cX0_clearProcessors 35 = .ok (.aload_n 1, 1) := by decide +kernel
theorem dX0_clearProcessors_36 : decode cX0_clearProcessors 36 = .ok (.iload_n 3, 1) := by decide +kernel
theorem dX0_clearProcessors_37 : decode cX0_clearProcessors 37 = .ok (.aaload, 1) := by decide +kernel
theorem dX0_clearProcessors_38 : decode cX0_clearProcessors 38 = .ok (.astore 4, 2) := by decide +kernel
theorem dX0_clearProcessors_40 : decode cX0_clearProcessors 40 = .ok (.aload 4, 2) := by decide +kernel
theorem dX0_clearProcessors_42 : decode cX0_clearProcessors 42 = .ok (.getfield 82, 3) := by decide +kernel
theorem dX0_clearProcessors_45 : decode cX0_clearProcessors 45 = .ok (.iconst 2, 1) := by decide +kernel
theorem dX0_clearProcessors_46 : decode cX0_clearProcessors 46 = .ok (.if_icmp .ne 9, 3) := by decide +kernel
theorem dX0_clearProcessors_49 : decode cX0_clearProcessors 49 = .ok (.aload 4, 2) := by decide +kernel
theorem dX0_clearProcessors_51 : decode cX0_clearProcessors 51 = .ok (.iconst 1, 1) := by decide +kernel
theorem dX0_clearProcessors_52 : decode cX0_clearProcessors 52 = .ok (.putfield 82, 3) := by decide +kernel
theorem dX0_clearProcessors_55 : decode cX0_clearProcessors 55 = .ok (.iinc 3 1, 3) := by decide +kernel
theorem dX0_clearProcessors_58 : decode cX0_clearProcessors 58 = .ok (.goto (-28), 3) := by decide +kernel
theorem dX0_clearProcessors_61 : decode cX0_clearProcessors 61 = .ok (.return_, 1) := by decide +kernel
theorem dX0_finish_0 : decode cX0_finish 0 = .ok (.aload_n 0, 1) := by decide +kernel
theorem dX0_finish_1 : decode cX0_finish 1 = .ok (.aload_n 1, 1) := by decide +kernel
theorem dX0_finish_2 : decode cX0_finish 2 = .ok (.invokevirtual 132, 3) := by decide +kernel
theorem dX0_finish_5 : decode cX0_finish 5 = .ok (.aload_n 1, 1) := by decide +kernel
theorem dX0_finish_6 : decode cX0_finish 6 = .ok (.bipush 6, 2) := by decide +kernel
theorem dX0_finish_8 : decode cX0_finish 8 = .ok (.putfield 82, 3) := by decide +kernel
theorem dX0_finish_11 : decode cX0_finish 11 = .ok (.aload_n 1, 1) := by decide +kernel
theorem dX0_finish_12 : decode cX0_finish 12 = .ok (.getfield 135, 3) := by decide +kernel
theorem dX0_finish_15 : decode cX0_finish 15 = .ok (.aload_n 0, 1) := by decide +kernel
theorem dX0_finish_16 : decode cX0_finish 16 = .ok (.getfield 69, 3) := by decide +kernel
theorem dX0_finish_19 : decode cX0_finish 19 = .ok (.putfield 139, 3) := by decide +kernel
theorem dX0_finish_22 : decode cX0_finish 22 = .ok (.iconst 0, 1) := by decide +kernel
theorem dX0_finish_23 : decode cX0_finish 23 = .ok (.istore_n 2, 1) := by decide +kernel
theorem dX0_finish_24 : decode cX0_finish 24 = .ok (.iload_n 2, 1) := by decide +kernel
theorem dX0_finish_25 : decode cX0_finish 25 = .ok (.bipush 6, 2) := by decide +kernel
theorem dX0_finish_27 : decode cX0_finish 27 = .ok (.if_icmp .ge 15, 3) := by decide +kernel
theorem dX0_finish_30 : decode cX0_finish 30 = .ok (.aload_n 0, 1) := by decide +kernel
theorem dX0_finish_31 : decode cX0_finish 31 = .ok (.aload_n 1, 1) := by decide +kernel
theorem dX0_finish_32 : decode cX0_finish 32 = .ok (.iload_n 2, 1) := by decide +kernel
theorem dX0_finish_33 : decode cX0_finish 33 = .ok (.invokevirtual 144, 3) := by decide +kernel
theorem dX0_finish_36 : decode cX0_finish 36 = .ok (.iinc 2 1, 3) := by decide +kernel
theorem dX0_finish_39 : decode cX0_finish 39 = .ok (.goto (-15), 3) := by decide +kernel
theorem dX0_finish_42 : decode cX0_finish 42 = .ok (.return_, 1) := by decide +kernel
theorem dX0_unlockBy_0 : decode cX0_unlockBy 0 = .ok (.iload_n 2, 1) := by decide +kernel
theorem dX0_unlockBy_1 : decode cX0_unlockBy 1 = .ok (.ifCond .lt 22, 3) := by decide +kernel
theorem dX0_unlockBy_4 : decode cX0_unlockBy 4 = .ok (.iload_n 2, 1) := by decide +kernel
theorem dX0_unlockBy_5 : decode cX0_unlockBy 5 = .ok (.bipush 6, 2) := by decide +kernel
theorem dX0_unlockBy_7 : decode cX0_unlockBy 7 = .ok (.if_icmp .ge 16, 3) := by decide +kernel
theorem dX0_unlockBy_10 : decode cX0_unlockBy 10 = .ok (.aload_n 0, 1) := by decide +kernel
theorem dX0_unlockBy_11 : decode cX0_unlockBy 11 = .ok (.getfield 35, 3) := by decide +kernel
theorem dX0_unlockBy_14 : decode cX0_unlockBy 14 = .ok (.iload_n 2, 1) := by decide +kernel
theorem dX0_unlockBy_15 : decode cX0_unlockBy 15 = .ok (.iaload, 1) := by decide +kernel
theorem dX0_unlockBy_16 : decode cX0_unlockBy 16 = .ok (.aload_n 1, 1) := by decide +kernel
theorem dX0_unlockBy_17 : decode cX0_unlockBy 17 = .ok (.getfield 85, 3) := by decide +kernel
theorem dX0_unlockBy_20 : decode cX0_unlockBy 20 = .ok (.if_icmp .eq 4, 3) := by decide +kernel
theorem dX0_unlockBy_23 : decode cX0_unlockBy 23 = .ok (.return_, 1) := by decide +kernel
theorem dX0_unlockBy_24 : decode cX0_unlockBy 24 = .ok (.aload_n 0, 1) := by decide +kernel
theorem dX0_unlockBy_25 : decode cX0_unlockBy 25 = .ok (.invokevirtual 148, 3) := by decide +kernel
theorem dX0_unlockBy_28 : decode cX0_unlockBy 28 = .ok (.aconst_null, 1) := by decide +kernel
theorem dX0_unlockBy_29 : decode cX0_unlockBy 29 = .ok (.astore_n 3, 1) := by decide +kernel
theorem dX0_unlockBy_30 : decode cX0_unlockBy 30 = .ok (.aload_n 0, 1) := by decide +kernel
theorem dX0_unlockBy_31 : decode cX0_unlockBy 31 = .ok (.getfield 27, 3) := by decide +kernel
theorem dX0_unlockBy_34 : decode cX0_unlockBy 34 = .ok (.astore 4, 2) := by decide +kernel
theorem dX0_unlockBy_36 : decode cX0_unlockBy 36 = .ok (.aload 4, 2) := by decide +kernel
theorem dX0_unlockBy_38 : decode cX0_unlockBy 38 = .ok (.arraylength, 1) := by decide +kernel
theorem dX0_unlockBy_39 : decode cX0_unlockBy 39 = .ok (.istore 5, 2) := by decide +kernel
theorem dX0_unlockBy_41 : decode cX0_unlockBy 41 = .ok (.iconst 0, 1) := by decide +kernel
theorem dX0_unlockBy_42 : decode cX0_unlockBy 42 = .ok (.istore 6, 2) := by decide +kernel
theorem dX0_unlockBy_44 : decode cX0_unlockBy 44 = .ok (.iload 6, 2) := by decide +kernel
theorem dX0_unlockBy_46 : decode cX0_unlockBy 46 = .ok (.iload 5, 2) := by decide +kernel
theorem dX0_unlockBy_48 : decode cX0_unlockBy 48 = .ok (.if_icmp .ge 42, 3) := by decide +kernel
theorem dX0_unlockBy_51 : decode cX0_unlockBy 51 = .ok (.aload 4, 2) := by decide +kernel
theorem dX0_unlockBy_53 : decode cX0_unlockBy 53 = .ok (.iload 6, 2) := by decide +kernel
theorem dX0_unlockBy_55 : decode cX0_unlockBy 55 = .ok (.aaload, 1) := by decide +kernel
theorem dX0_unlockBy_56 : decode cX0_unlockBy 56 = .ok (.astore 7, 2) := by decide +kernel
theorem dX0_unlockBy_58 : decode cX0_unlockBy 58 = .ok (.aload 7, 2) := by decide +kernel
theorem dX0_unlockBy_60 : decode cX0_unlockBy 60 = .ok (.iconst 4, 1) := by decide +kernel
theorem dX0_unlockBy_61 : decode cX0_unlockBy 61 = .ok (.iload_n 2, 1) := by decide +kernel
theorem dX0_unlockBy_62 : decode cX0_unlockBy 62 = .ok (.invokevirtual 88, 3) := by decide +kernel
theorem dX0_unlockBy_65 : decode cX0_unlockBy 65 = .ok (.ifCond .eq 19, 3) := by decide +kernel
theorem dX0_unlockBy_68 : decode cX0_unlockBy 68 = .ok (.aload_n 3, 1) := by decide +kernel
theorem dX0_unlockBy_69 : decode cX0_unlockBy 69 = .ok (.ifnull 12, 3) := by decide +kernel
theorem dX0_unlockBy_72 : decode cX0_unlockBy 72 = .ok (.aload 7, 2) := by decide +kernel
theorem dX0_unlockBy_74 : decode cX0_unlockBy 74 = .ok (.aload_n 3, 1) := by decide +kernel
theorem dX0_unlockBy_75 : decode cX0_unlockBy 75 = .ok (.invokevirtual 151, 3) := by decide +kernel
theorem dX0_unlockBy_78 : decode cX0_unlockBy 78 = .ok (.ifCond .eq 6, 3) := by decide +kernel
theorem dX0_unlockBy_81 : decode cX0_unlockBy 81 = .ok (.aload 7, 2) := by decide +kernel
theorem dX0_unlockBy_83 : decode cX0_unlockBy 83 = .ok (.astore_n 3, 1) := by decide +kernel
theorem dX0_unlockBy_84 : decode cX0_unlockBy 84 = .ok (.iinc 6 1, 3) := by decide +kernel
theorem dX0_unlockBy_87 : decode cX0_unlockBy 87 = .ok (.goto (-43), 3) := by decide +kernel
theorem dX0_unlockBy_90 : decode cX0_unlockBy 90 = .ok (.aload_n 0, 1) := by decide +kernel
theorem dX0_unlockBy_91 : decode cX0_unlockBy 91 = .ok (.getfield 35, 3) := by decide +kernel
theorem dX0_unlockBy_94 : decode cX0_unlockBy 94 = .ok (.iload_n 2, 1) := by decide +kernel
theorem dX0_unlockBy_95 : decode cX0_unlockBy 95 = .ok (.aload_n 3, 1) := by decide +kernel
theorem dX0_unlockBy_96 : decode cX0_unlockBy 96 = .ok (.ifnonnull 7, 3) := by decide +kernel
theorem dX0_unlockBy_99 : decode cX0_unlockBy 99 = .ok (.iconst (-1), 1) := by decide +kernel
theorem dX0_unlockBy_100 : decode cX0_unlockBy 100 = .ok (.goto 7, 3) := by decide +kernel
theorem dX0_unlockBy_103 : decode cX0_unlockBy 103 = .ok (.aload_n 3, 1) := by decide +kernel
theorem dX0_unlockBy_104 : decode cX0_unlockBy 104 = .ok (.getfield 85, 3) := by decide +kernel
theorem dX0_unlockBy_107 : decode cX0_unlockBy 107 = .ok (.iastore, 1) := by decide +kernel
theorem dX0_unlockBy_108 : decode cX0_unlockBy 108 = .ok (.aload_n 3, 1) := by decide +kernel
theorem dX0_unlockBy_109 : decode cX0_unlockBy 109 = .ok (.ifnull 18, 3) := by decide +kernel
theorem dX0_unlockBy_112 : decode cX0_unlockBy 112 = .ok (.aload_n 3, 1) := by decide +kernel
theorem dX0_unlockBy_113 : decode cX0_unlockBy 113 = .ok (.dup, 1) := by decide +kernel
theorem dX0_unlockBy_114 : decode cX0_unlockBy 114 = .ok (.getfield 154, 3) := by decide +kernel
theorem dX0_unlockBy_117 : decode cX0_unlockBy 117 = .ok (.iconst 1, 1) := by decide +kernel
theorem dX0_unlockBy_118 : decode cX0_unlockBy 118 = .ok (.iadd, 1) := by decide +kernel
theorem dX0_unlockBy_119 : decode cX0_unlockBy 119 = .ok (.putfield 154, 3) := by decide +kernel
theorem dX0_unlockBy_122 : decode cX0_unlockBy 122 = .ok (.aload_n 0, 1) := by decide +kernel
theorem dX0_unlockBy_123 : decode cX0_unlockBy 123 = .ok (.aload_n 3, 1) := by decide +kernel
theorem dX0_unlockBy_124 : decode cX0_unlockBy 124 = .ok (.invokevirtual 157, 3) := by decide +kernel
theorem dX0_unlockBy_127 : decode cX0_unlockBy 127 = .ok (.return_, 1) := by decide +kernel
theorem dX0_giveSignal_0 : decode cX0_giveSignal 0 = .ok (.iload_n 1, 1) := by decide +kernel
theorem dX0_giveSignal_1 : decode cX0_giveSignal 1 = .ok (.ifCond .lt 9, 3) := by decide +kernel
theorem dX0_giveSignal_4 : decode cX0_giveSignal 4 = .ok (.iload_n 1, 1) := by decide +kernel
theorem dX0_giveSignal_5 : decode cX0_giveSignal 5 = .ok (.bipush 6, 2) := by decide +kernel
theorem dX0_giveSignal_7 : decode cX0_giveSignal 7 = .ok (.if_icmp .lt 4, 3) := by decide +kernel
theorem dX0_giveSignal_10 : decode cX0_giveSignal 10 = .ok (.return_, 1) := by decide +kernel
theorem dX0_giveSignal_11 : decode cX0_giveSignal 11 = .ok (.aconst_null, 1) := by decide +kernel
theorem dX0_giveSignal_12 : decode cX0_giveSignal 12 = .ok (.astore_n 2, 1) := by decide +kernel
theorem dX0_giveSignal_13 : decode cX0_giveSignal 13 = .ok (.aload_n 0, 1) := by decide +kernel
theorem dX0_giveSignal_14 : decode cX0_giveSignal 14 = .ok (.getfield 27, 3) := by decide +kernel
theorem dX0_giveSignal_17 : decode cX0_giveSignal 17 = .ok (.astore_n 3, 1) := by decide +kernel
theorem dX0_giveSignal_18 : decode cX0_giveSignal 18 = .ok (.aload_n 3, 1) := by decide +kernel
theorem dX0_giveSignal_19 : decode cX0_giveSignal 19 = .ok (.arraylength, 1) := by decide +kernel
theorem dX0_giveSignal_20 : decode cX0_giveSignal 20 = .ok (.istore 4, 2) := by decide +kernel
theorem dX0_giveSignal_22 : decode cX0_giveSignal 22 = .ok (.iconst 0, 1) := by decide +kernel
theorem dX0_giveSignal_23 : decode cX0_giveSignal 23 = .ok (.istore 5, 2) := by decide +kernel
theorem dX0_giveSignal_25 : decode cX0_giveSignal 25 = .ok (.iload 5, 2) := by decide +kernel
theorem dX0_giveSignal_27 : decode cX0_giveSignal 27 = .ok (.iload 4, 2) := by decide +kernel
theorem dX0_giveSignal_29 : decode cX0_giveSignal 29 = .ok (.if_icmp .ge 44, 3) := by decide +kernel
theorem dX0_giveSignal_32 : decode cX0_giveSignal 32 = .ok (.aload_n 3, 1) := by decide +kernel
theorem dX0_giveSignal_33 : decode cX0_giveSignal 33 = .ok (.iload 5, 2) := by decide +kernel
theorem dX0_giveSignal_35 : decode cX0_giveSignal 35 = .ok (.aaload, 1) := by decide +kernel
theorem dX0_giveSignal_36 : decode cX0_giveSignal 36 = .ok (.astore 6, 2) := by decide +kernel
theorem dX0_giveSignal_38 : decode cX0_giveSignal 38 = .ok (.aload 6, 2) := by decide +kernel
theorem dX0_giveSignal_40 : decode cX0_giveSignal 40 = .ok (.iconst 5, 1) := by decide +kernel
theorem dX0_giveSignal_41 : decode cX0_giveSignal 41 = .ok (.iload_n 1, 1) := by decide +kernel
theorem dX0_giveSignal_42 : decode cX0_giveSignal 42 = .ok (.invokevirtual 88, 3) := by decide +kernel
theorem dX0_giveSignal_45 : decode cX0_giveSignal 45 = .ok (.ifCond .eq 22, 3) := by decide +kernel
theorem dX0_giveSignal_48 : decode cX0_giveSignal 48 = .ok (.aload_n 2, 1) := by decide +kernel
theorem dX0_giveSignal_49 : decode cX0_giveSignal 49 = .ok (.ifnull 15, 3) := by decide +kernel
theorem dX0_giveSignal_52 : decode cX0_giveSignal 52 = .ok (.aload 6, 2) := by decide +kernel
theorem dX0_giveSignal_54 : decode cX0_giveSignal 54 = .ok (.getfield 160, 3) := by decide +kernel
theorem dX0_giveSignal_57 : decode cX0_giveSignal 57 = .ok (.aload_n 2, 1) := by decide +kernel
theorem dX0_giveSignal_58 : decode cX0_giveSignal 58 = .ok (.getfield 160, 3) := by decide +kernel
theorem dX0_giveSignal_61 : decode cX0_giveSignal 61 = .ok (.if_icmp .ge 6, 3) := by decide +kernel
theorem dX0_giveSignal_64 : decode cX0_giveSignal 64 = .ok (.aload 6, 2) := by decide +kernel
theorem dX0_giveSignal_66 : decode cX0_giveSignal 66 = .ok (.astore_n 2, 1) := by decide +kernel
theorem dX0_giveSignal_67 : decode cX0_giveSignal 67 = .ok (.iinc 5 1, 3) := by decide +kernel
theorem dX0_giveSignal_70 : decode cX0_giveSignal 70 = .ok (.goto (-45), 3) := by decide +kernel
theorem dX0_giveSignal_73 : decode cX0_giveSignal 73 = .ok (.aload_n 2, 1) := by decide +kernel
theorem dX0_giveSignal_74 : decode cX0_giveSignal 74 = .ok (.ifnull 21, 3) := by decide +kernel
theorem dX0_giveSignal_77 : decode cX0_giveSignal 77 = .ok (.aload_n 2, 1) := by decide +kernel
theorem dX0_giveSignal_78 : decode cX0_giveSignal 78 = .ok (.dup, 1) := by decide +kernel
theorem dX0_giveSignal_79 : decode cX0_giveSignal 79 = .ok (.getfield 154, 3) := by decide +kernel
theorem dX0_giveSignal_82 : decode cX0_giveSignal 82 = .ok (.iconst 1, 1) := by decide +kernel
theorem dX0_giveSignal_83 : decode cX0_giveSignal 83 = .ok (.iadd, 1) := by decide +kernel
theorem dX0_giveSignal_84 : decode cX0_giveSignal 84 = .ok (.putfield 154, 3) := by decide +kernel
theorem dX0_giveSignal_87 : decode cX0_giveSignal 87 = .ok (.aload_n 0, 1) := by decide +kernel
theorem dX0_giveSignal_88 : decode cX0_giveSignal 88 = .ok (.aload_n 2, 1) := by decide +kernel
theorem dX0_giveSignal_89 : decode cX0_giveSignal 89 = .ok (.invokevirtual 157, 3) := by decide +kernel
theorem dX0_giveSignal_92 : decode cX0_giveSignal 92 = .ok (.goto 24, 3) := by decide +kernel
theorem dX0_giveSignal_95 : decode cX0_giveSignal 95 = .ok (.aload_n 0, 1) := by decide +kernel
theorem dX0_giveSignal_96 : decode cX0_giveSignal 96 = .ok (.getfield 38, 3) := by decide +kernel
theorem dX0_giveSignal_99 : decode cX0_giveSignal 99 = .ok (.iload_n 1, 1) := by decide +kernel
theorem dX0_giveSignal_100 : decode cX0_giveSignal 100 = .ok (.iaload, 1) := by decide +kernel
theorem dX0_giveSignal_101 : decode cX0_giveSignal 101 = .ok (.bipush 99, 2) := by decide +kernel
theorem dX0_giveSignal_103 : decode cX0_giveSignal 103 = .ok (.if_icmp .ge 13, 3) := by decide +kernel
theorem dX0_giveSignal_106 : decode cX0_giveSignal 106 = .ok (.aload_n 0, 1) := by decide +kernel
theorem dX0_giveSignal_107 : decode cX0_giveSignal 107 = .ok (.getfield 38, 3) := by decide +kernel
theorem dX0_giveSignal_110 : decode cX0_giveSignal 110 = .ok (.iload_n 1, 1) := by decide +kernel
theorem dX0_giveSignal_111 : decode cX0_giveSignal 111 = .ok (.dup2, 1) := by decide +kernel
theorem dX0_giveSignal_112 : decode cX0_giveSignal 112 = .ok (.iaload, 1) := by decide +kernel
theorem dX0_giveSignal_113 : decode cX0_giveSignal 113 = .ok (.iconst 1, 1) := by decide +kernel
theorem dX0_giveSignal_114 : decode cX0_giveSignal 114 = .ok (.iadd, 1) := by decide +kernel
theorem dX0_giveSignal_115 : decode cX0_giveSignal 115 = .ok (.iastore, 1) := by decide +kernel
theorem dX0_giveSignal_116 : decode cX0_giveSignal 116 = .ok (.return_, 1) := by decide +kernel
theorem dX0_passTick_0 : decode cX0_passTick 0 = .ok (.aload_n 0, 1) := by decide +kernel
theorem dX0_passTick_1 : decode cX0_passTick 1 = .ok (.invokevirtual 163, 3) := by decide +kernel
theorem dX0_passTick_4 : decode cX0_passTick 4 = .ok (.aload_n 0, 1) := by decide +kernel
theorem dX0_passTick_5 : decode cX0_passTick 5 = .ok (.invokevirtual 166, 3) := by decide +kernel
theorem dX0_passTick_8 : decode cX0_passTick 8 = .ok (.aload_n 0, 1) := by decide +kernel
theorem dX0_passTick_9 : decode cX0_passTick 9 = .ok (.invokevirtual 169, 3) := by decide +kernel
theorem dX0_passTick_12 : decode cX0_passTick 12 = .ok (.aload_n 0, 1) := by decide +kernel
theorem dX0_passTick_13 : decode cX0_passTick 13 = .ok (.invokevirtual 172, 3) := by decide +kernel
theorem dX0_passTick_16 : decode cX0_passTick 16 = .ok (.iconst 0, 1) := by decide +kernel
theorem dX0_passTick_17 : decode cX0_passTick 17 = .ok (.istore_n 1, 1) := by decide +kernel
theorem dX0_passTick_18 : decode cX0_passTick 18 = .ok (.iload_n 1, 1) := by decide +kernel
theorem dX0_passTick_19 : decode cX0_passTick 19 = .ok (.iconst 3, 1) := by decide +kernel
theorem dX0_passTick_20 : decode cX0_passTick 20 = .ok (.if_icmp .ge 111, 3) := by decide +kernel
theorem dX0_passTick_23 : decode cX0_passTick 23 = .ok (.aload_n 0, 1) := by decide +kernel
theorem dX0_passTick_24 : decode cX0_passTick 24 = .ok (.aload_n 0, 1) := by decide +kernel
theorem dX0_passTick_25 : decode cX0_passTick 25 = .ok (.getfield 41, 3) := by decide +kernel
theorem dX0_passTick_28 : decode cX0_passTick 28 = .ok (.iload_n 1, 1) := by decide +kernel
theorem dX0_passTick_29 : decode cX0_passTick 29 = .ok (.iaload, 1) := by decide +kernel
theorem dX0_passTick_30 : decode cX0_passTick 30 = .ok (.invokevirtual 103, 3) := by decide +kernel
theorem dX0_passTick_33 : decode cX0_passTick 33 = .ok (.astore_n 2, 1) := by decide +kernel
theorem dX0_passTick_34 : decode cX0_passTick 34 = .ok (.aload_n 0, 1) := by decide +kernel
theorem dX0_passTick_35 : decode cX0_passTick 35 = .ok (.aload_n 2, 1) := by decide +kernel
theorem dX0_passTick_36 : decode cX0_passTick 36 = .ok (.invokevirtual 175, 3) := by decide +kernel
theorem dX0_passTick_39 : decode cX0_passTick 39 = .ok (.aload_n 2, 1) := by decide +kernel
theorem dX0_passTick_40 : decode cX0_passTick 40 = .ok (.ifnull 15, 3) := by decide +kernel
theorem dX0_passTick_43 : decode cX0_passTick 43 = .ok (.aload_n 2, 1) := by decide +kernel
theorem dX0_passTick_44 : decode cX0_passTick 44 = .ok (.getfield 82, 3) := by decide +kernel
theorem dX0_passTick_47 : decode cX0_passTick 47 = .ok (.iconst 2, 1) := by decide +kernel
theorem dX0_passTick_48 : decode cX0_passTick 48 = .ok (.if_icmp .ne 7, 3) := by decide +kernel
theorem dX0_passTick_51 : decode cX0_passTick 51 = .ok (.iconst 1, 1) := by decide +kernel
theorem dX0_passTick_52 : decode cX0_passTick 52 = .ok (.goto 4, 3) := by decide +kernel
theorem dX0_passTick_55 : decode cX0_passTick 55 = .ok (.iconst 0, 1) := by decide +kernel
theorem dX0_passTick_56 : decode cX0_passTick 56 = .ok (.istore_n 3, 1) := by decide +kernel
theorem dX0_passTick_57 : decode cX0_passTick 57 = .ok (.aload_n 0, 1) := by decide +kernel
theorem dX0_passTick_58 : decode cX0_passTick 58 = .ok (.getfield 21, 3) := by decide +kernel
theorem dX0_passTick_61 : decode cX0_passTick 61 = .ok (.iload_n 1, 1) := by decide +kernel
theorem dX0_passTick_62 : decode cX0_passTick 62 = .ok (.aload_n 0, 1) := by decide +kernel
theorem dX0_passTick_63 : decode cX0_passTick 63 = .ok (.getfield 69, 3) := by decide +kernel
theorem dX0_passTick_66 : decode cX0_passTick 66 = .ok (.iload_n 3, 1) := by decide +kernel
theorem dX0_passTick_67 : decode cX0_passTick 67 = .ok (.ifCond .eq 10, 3) := by decide +kernel
theorem dX0_passTick_70 : decode cX0_passTick 70 = .ok (.aload_n 2, 1) := by decide +kernel
theorem dX0_passTick_71 : decode cX0_passTick 71 = .ok (.getfield 85, 3) := by decide +kernel
theorem dX0_passTick_74 : decode cX0_passTick 74 = .ok (.goto 4, 3) := by decide +kernel
theorem dX0_passTick_77 : decode cX0_passTick 77 = .ok (.iconst (-1), 1) := by decide +kernel
theorem dX0_passTick_78 : decode cX0_passTick 78 = .ok (.invokevirtual 178, 3) := by decide +kernel
theorem dX0_passTick_81 : decode cX0_passTick 81 = .ok (.iload_n 1, 1) := by decide +kernel
theorem dX0_passTick_82 : decode cX0_passTick 82 = .ok (.aload_n 0, 1) := by decide +kernel
theorem dX0_passTick_83 : decode cX0_passTick 83 = .ok (.getfield 12, 3) := by decide +kernel
theorem dX0_passTick_86 : decode cX0_passTick 86 = .ok (.getfield 182, 3) := by decide +kernel
theorem dX0_passTick_89 : decode cX0_passTick 89 = .ok (.if_icmp .ge 11, 3) := by decide +kernel
theorem dX0_passTick_92 : decode cX0_passTick 92 = .ok (.aload_n 0, 1) := by decide +kernel
theorem dX0_passTick_93 : decode cX0_passTick 93 = .ok (.getfield 21, 3) := by decide +kernel
theorem dX0_passTick_96 : decode cX0_passTick 96 = .ok (.iload_n 3, 1) := by decide +kernel
theorem dX0_passTick_97 : decode cX0_passTick 97 = .ok (.invokevirtual 185, 3) := by decide +kernel
theorem dX0_passTick_100 : decode cX0_passTick 100 = .ok (.iload_n 3, 1) := by decide +kernel
theorem dX0_passTick_101 : decode cX0_passTick 101 = .ok (.ifCond .eq 8, 3) := by decide +kernel
theorem dX0_passTick_104 : decode cX0_passTick 104 = .ok (.aload_n 0, 1) := by decide +kernel
theorem dX0_passTick_105 : decode cX0_passTick 105 = .ok (.aload_n 2, 1) := by decide +kernel
theorem dX0_passTick_106 : decode cX0_passTick 106 = .ok (.invokevirtual 189, 3) := by decide +kernel
theorem dX0_passTick_109 : decode cX0_passTick 109 = .ok (.iload_n 3, 1) := by decide +kernel
theorem dX0_passTick_110 : decode cX0_passTick 110 = .ok (.ifCond .eq 15, 3) := by decide +kernel
theorem dX0_passTick_113 : decode cX0_passTick 113 = .ok (.aload_n 2, 1) := by decide +kernel
theorem dX0_passTick_114 : decode cX0_passTick 114 = .ok (.invokevirtual 192, 3) := by decide +kernel
theorem dX0_passTick_117 : decode cX0_passTick 117 = .ok (.ifCond .eq 8, 3) := by decide +kernel
theorem dX0_passTick_120 : decode cX0_passTick 120 = .ok (.aload_n 0, 1) := by decide +kernel
theorem dX0_passTick_121 : decode cX0_passTick 121 = .ok (.aload_n 2, 1) := by decide +kernel
theorem dX0_passTick_122 : decode cX0_passTick 122 = .ok (.invokevirtual 196, 3) := by decide +kernel
theorem dX0_passTick_125 : decode cX0_passTick 125 = .ok (.iinc 1 1, 3) := by decide +kernel
theorem dX0_passTick_128 : decode cX0_passTick 128 = .ok (.goto (-110), 3) := by decide +kernel
theorem dX0_passTick_131 : decode cX0_passTick 131 = .ok (.aload_n 0, 1) := by decide +kernel
theorem dX0_passTick_132 : decode cX0_passTick 132 = .ok (.invokevirtual 199, 3) := by decide +kernel
theorem dX0_passTick_135 : decode cX0_passTick 135 = .ok (.aload_n 0, 1) := by decide +kernel
theorem dX0_passTick_136 : decode cX0_passTick 136 = .ok (.dup, 1) := by decide +kernel
theorem dX0_passTick_137 : decode cX0_passTick 137 = .ok (.getfield 69, 3) := by decide +kernel
theorem dX0_passTick_140 : decode cX0_passTick 140 = .ok (.iconst 1, 1) := by decide +kernel
theorem dX0_passTick_141 : decode cX0_passTick 141 = .ok (.iadd, 1) := by decide +kernel
theorem dX0_passTick_142 : decode cX0_passTick 142 = .ok (.putfield 69, 3) := by decide +kernel
theorem dX0_passTick_145 : decode cX0_passTick 145 = .ok (.return_, 1) := by decide +kernel
theorem dX0_beginPeriods_0 : decode cX0_beginPeriods 0 = .ok (.aload_n 0, 1) := by decide +kernel
theorem dX0_beginPeriods_1 : decode cX0_beginPeriods 1 = .ok (.getfield 12, 3) := by decide +kernel
theorem dX0_beginPeriods_4 : decode cX0_beginPeriods 4 = .ok (.aload_n 0, 1) := by decide +kernel
theorem dX0_beginPeriods_5 : decode cX0_beginPeriods 5 = .ok (.getfield 69, 3) := by decide +kernel
theorem dX0_beginPeriods_8 : decode cX0_beginPeriods 8 = .ok (.aload_n 0, 1) := by decide +kernel
theorem dX0_beginPeriods_9 : decode cX0_beginPeriods 9 = .ok (.getfield 12, 3) := by decide +kernel
theorem dX0_beginPeriods_12 : decode cX0_beginPeriods 12 = .ok (.getfield 202, 3) := by decide +kernel
theorem dX0_beginPeriods_15 : decode cX0_beginPeriods 15 = .ok (.invokevirtual 205, 3) := by decide +kernel
theorem dX0_beginPeriods_18 : decode cX0_beginPeriods 18 = .ok (.ifCond .eq 23, 3) := by decide +kernel
theorem dX0_beginPeriods_21 : decode cX0_beginPeriods 21 = .ok (.iconst 0, 1) := by decide +kernel
theorem dX0_beginPeriods_22 : decode cX0_beginPeriods 22 = .ok (.istore_n 1, 1) := by decide +kernel
theorem dX0_beginPeriods_23 : decode cX0_beginPeriods 23 = .ok (.iload_n 1, 1) := by decide +kernel
theorem dX0_beginPeriods_24 : decode cX0_beginPeriods 24 = .ok (.iconst 4, 1) := by decide +kernel
theorem dX0_beginPeriods_25 : decode cX0_beginPeriods 25 = .ok (.if_icmp .ge 16, 3) := by decide +kernel
theorem dX0_beginPeriods_28 : decode cX0_beginPeriods 28 = .ok (.aload_n 0, 1) := by decide +kernel
theorem dX0_beginPeriods_29 : decode cX0_beginPeriods 29 = .ok (.getfield 31, 3) := by decide +kernel
theorem dX0_beginPeriods_32 : decode cX0_beginPeriods 32 = .ok (.iload_n 1, 1) := by decide +kernel
theorem dX0_beginPeriods_33 : decode cX0_beginPeriods 33 = .ok (.iconst 0, 1) := by decide +kernel
theorem dX0_beginPeriods_34 : decode cX0_beginPeriods 34 = .ok (.iastore, 1) := by decide +kernel
theorem dX0_beginPeriods_35 : decode cX0_beginPeriods 35 = .ok (.iinc 1 1, 3) := by decide +kernel
theorem dX0_beginPeriods_38 : decode cX0_beginPeriods 38 = .ok (.goto (-15), 3) := by decide +kernel
theorem dX0_beginPeriods_41 : decode cX0_beginPeriods 41 = .ok (.aload_n 0, 1) := by decide +kernel
theorem dX0_beginPeriods_42 : decode cX0_beginPeriods 42 = .ok (.getfield 12, 3) := by decide +kernel
theorem dX0_beginPeriods_45 : decode cX0_beginPeriods 45 = .ok (.getfield 107, 3) := by decide +kernel
theorem dX0_beginPeriods_48 : decode cX0_beginPeriods 48 = .ok (.iconst 1, 1) := by decide +kernel
theorem dX0_beginPeriods_49 : decode cX0_beginPeriods 49 = .ok (.if_icmp .ne 56, 3) := by decide +kernel
theorem dX0_beginPeriods_52 : decode cX0_beginPeriods 52 = .ok (.aload_n 0, 1) := by decide +kernel
theorem dX0_beginPeriods_53 : decode cX0_beginPeriods 53 = .ok (.getfield 12, 3) := by decide +kernel
theorem dX0_beginPeriods_56 : decode cX0_beginPeriods 56 = .ok (.aload_n 0, 1) := by decide +kernel
theorem dX0_beginPeriods_57 : decode cX0_beginPeriods 57 = .ok (.getfield 69, 3) := by decide +kernel
theorem dX0_beginPeriods_60 : decode cX0_beginPeriods 60 = .ok (.aload_n 0, 1) := by decide +kernel
theorem dX0_beginPeriods_61 : decode cX0_beginPeriods 61 = .ok (.getfield 12, 3) := by decide +kernel
theorem dX0_beginPeriods_64 : decode cX0_beginPeriods 64 = .ok (.getfield 208, 3) := by decide +kernel
theorem dX0_beginPeriods_67 : decode cX0_beginPeriods 67 = .ok (.invokevirtual 205, 3) := by decide +kernel
theorem dX0_beginPeriods_70 : decode cX0_beginPeriods 70 = .ok (.ifCond .eq 35, 3) := by decide +kernel
theorem dX0_beginPeriods_73 : decode cX0_beginPeriods 73 = .ok (.aload_n 0, 1) := by decide +kernel
theorem dX0_beginPeriods_74 : decode cX0_beginPeriods 74 = .ok (.getfield 27, 3) := by decide +kernel
theorem dX0_beginPeriods_77 : decode cX0_beginPeriods 77 = .ok (.astore_n 1, 1) := by decide +kernel
theorem dX0_beginPeriods_78 : decode cX0_beginPeriods 78 = .ok (.aload_n 1, 1) := by decide +kernel
theorem dX0_beginPeriods_79 : decode cX0_beginPeriods 79 = .ok (.arraylength, 1) := by decide +kernel
theorem dX0_beginPeriods_80 : decode cX0_beginPeriods 80 = .ok (.istore_n 2, 1) := by decide +kernel
theorem dX0_beginPeriods_81 : decode cX0_beginPeriods 81 = .ok (.iconst 0, 1) := by decide +kernel
theorem dX0_beginPeriods_82 : decode cX0_beginPeriods 82 = .ok (.istore_n 3, 1) := by decide +kernel
theorem dX0_beginPeriods_83 : decode cX0_beginPeriods 83 = .ok (.iload_n 3, 1) := by decide +kernel
theorem dX0_beginPeriods_84 : decode cX0_beginPeriods 84 = .ok (.iload_n 2, 1) := by decide +kernel
theorem dX0_beginPeriods_85 : decode cX0_beginPeriods 85 = .ok (.if_icmp .ge 20, 3) := by decide +kernel
theorem dX0_beginPeriods_88 : decode cX0_beginPeriods 88 = .ok (.aload_n 1, 1) := by decide +kernel
theorem dX0_beginPeriods_89 : decode cX0_beginPeriods 89 = .ok (.iload_n 3, 1) := by decide +kernel
theorem dX0_beginPeriods_90 : decode cX0_beginPeriods 90 = .ok (.aaload, 1) := by decide +kernel
theorem dX0_beginPeriods_91 : decode cX0_beginPeriods 91 = .ok (.astore 4, 2) := by decide +kernel
theorem dX0_beginPeriods_93 : decode cX0_beginPeriods 93 = .ok (.aload 4, 2) := by decide +kernel
theorem dX0_beginPeriods_95 : decode cX0_beginPeriods 95 = .ok (.iconst 0, 1) := by decide +kernel
theorem dX0_beginPeriods_96 : decode cX0_beginPeriods 96 = .ok (.putfield 129, 3) := by decide +kernel
theorem dX0_beginPeriods_99 : decode cX0_beginPeriods 99 = .ok (.iinc 3 1, 3) := by decide +kernel
theorem dX0_beginPeriods_102 : decode cX0_beginPeriods 102 = .ok (.goto (-19), 3) := by decide +kernel
theorem dX0_beginPeriods_105 : decode cX0_beginPeriods 105 = .ok (.return_, 1) := by decide +kernel
theorem dX0_wakeSleepers_0 : decode cX0_wakeSleepers 0 = .ok (.aload_n 0, 1) := by decide +kernel
theorem dX0_wakeSleepers_1 : decode cX0_wakeSleepers 1 = .ok (.getfield 27, 3) := by decide +kernel
theorem dX0_wakeSleepers_4 : decode cX0_wakeSleepers 4 = .ok (.astore_n 1, 1) := by decide +kernel
theorem dX0_wakeSleepers_5 : decode cX0_wakeSleepers 5 = .ok (.aload_n 1, 1) := by decide +kernel
theorem dX0_wakeSleepers_6 : decode cX0_wakeSleepers 6 = .ok (.arraylength, 1) := by decide +kernel
theorem dX0_wakeSleepers_7 : decode cX0_wakeSleepers 7 = .ok (.istore_n 2, 1) := by decide +kernel
theorem dX0_wakeSleepers_8 : decode cX0_wakeSleepers 8 = .ok (.iconst 0, 1) := by decide +kernel
theorem dX0_wakeSleepers_9 : decode cX0_wakeSleepers 9 = .ok (.istore_n 3, 1) := by decide +kernel
theorem dX0_wakeSleepers_10 : decode cX0_wakeSleepers 10 = .ok (.iload_n 3, 1) := by decide +kernel
theorem dX0_wakeSleepers_11 : decode cX0_wakeSleepers 11 = .ok (.iload_n 2, 1) := by decide +kernel
theorem dX0_wakeSleepers_12 : decode cX0_wakeSleepers 12 = .ok (.if_icmp .ge 41, 3) := by decide +kernel
theorem dX0_wakeSleepers_15 : decode cX0_wakeSleepers 15 = .ok (.aload_n 1, 1) := by decide +kernel
theorem dX0_wakeSleepers_16 : decode cX0_wakeSleepers 16 = .ok (.iload_n 3, 1) := by decide +kernel
theorem dX0_wakeSleepers_17 : decode cX0_wakeSleepers 17 = .ok (.aaload, 1) := by decide +kernel
theorem dX0_wakeSleepers_18 : decode cX0_wakeSleepers 18 = .ok (.astore 4, 2) := by decide +kernel
theorem dX0_wakeSleepers_20 : decode cX0_wakeSleepers 20 = .ok (.aload 4, 2) := by decide +kernel
theorem dX0_wakeSleepers_22 : decode cX0_wakeSleepers 22 = .ok (.getfield 82, 3) := by decide +kernel
theorem dX0_wakeSleepers_25 : decode cX0_wakeSleepers 25 = .ok (.iconst 3, 1) := by decide +kernel
theorem dX0_wakeSleepers_26 : decode cX0_wakeSleepers 26 = .ok (.if_icmp .ne 21, 3) := by decide +kernel
theorem dX0_wakeSleepers_29 : decode cX0_wakeSleepers 29 = .ok (.aload 4, 2) := by decide +kernel
theorem dX0_wakeSleepers_31 : decode cX0_wakeSleepers 31 = .ok (.getfield 96, 3) := by decide +kernel
theorem dX0_wakeSleepers_34 : decode cX0_wakeSleepers 34 = .ok (.aload_n 0, 1) := by decide +kernel
theorem dX0_wakeSleepers_35 : decode cX0_wakeSleepers 35 = .ok (.getfield 69, 3) := by decide +kernel
theorem dX0_wakeSleepers_38 : decode cX0_wakeSleepers 38 = .ok (.if_icmp .gt 9, 3) := by decide +kernel
theorem dX0_wakeSleepers_41 : decode cX0_wakeSleepers 41 = .ok (.aload_n 0, 1) := by decide +kernel
theorem dX0_wakeSleepers_42 : decode cX0_wakeSleepers 42 = .ok (.aload 4, 2) := by decide +kernel
theorem dX0_wakeSleepers_44 : decode cX0_wakeSleepers 44 = .ok (.invokevirtual 157, 3) := by decide +kernel
theorem dX0_wakeSleepers_47 : decode cX0_wakeSleepers 47 = .ok (.iinc 3 1, 3) := by decide +kernel
theorem dX0_wakeSleepers_50 : decode cX0_wakeSleepers 50 = .ok (.goto (-40), 3) := by decide +kernel
theorem dX0_wakeSleepers_53 : decode cX0_wakeSleepers 53 = .ok (.return_, 1) := by decide +kernel
theorem dX0_endTurns_0 : decode cX0_endTurns 0 = .ok (.iconst 0, 1) := by decide +kernel
theorem dX0_endTurns_1 : decode cX0_endTurns 1 = .ok (.istore_n 1, 1) := by decide +kernel
theorem dX0_endTurns_2 : decode cX0_endTurns 2 = .ok (.iload_n 1, 1) := by decide +kernel
theorem dX0_endTurns_3 : decode cX0_endTurns 3 = .ok (.iconst 3, 1) := by decide +kernel
theorem dX0_endTurns_4 : decode cX0_endTurns 4 = .ok (.if_icmp .ge 83, 3) := by decide +kernel
theorem dX0_endTurns_7 : decode cX0_endTurns 7 = .ok (.aload_n 0, 1) := by decide +kernel
theorem dX0_endTurns_8 : decode cX0_endTurns 8 = .ok (.aload_n 0, 1) := by decide +kernel
theorem dX0_endTurns_9 : decode cX0_endTurns 9 = .ok (.getfield 41, 3) := by decide +kernel
theorem dX0_endTurns_12 : decode cX0_endTurns 12 = .ok (.iload_n 1, 1) := by decide +kernel
theorem dX0_endTurns_13 : decode cX0_endTurns 13 = .ok (.iaload, 1) := by decide +kernel
theorem dX0_endTurns_14 : decode cX0_endTurns 14 = .ok (.invokevirtual 103, 3) := by decide +kernel
theorem dX0_endTurns_17 : decode cX0_endTurns 17 = .ok (.astore_n 2, 1) := by decide +kernel
theorem dX0_endTurns_18 : decode cX0_endTurns 18 = .ok (.aload_n 2, 1) := by decide +kernel
theorem dX0_endTurns_19 : decode cX0_endTurns 19 = .ok (.ifnull 62, 3) := by decide +kernel
theorem dX0_endTurns_22 : decode cX0_endTurns 22 = .ok (.aload_n 0, 1) := by decide +kernel
theorem dX0_endTurns_23 : decode cX0_endTurns 23 = .ok (.getfield 12, 3) := by decide +kernel
theorem dX0_endTurns_26 : decode cX0_endTurns 26 = .ok (.aload_n 2, 1) := by decide +kernel
theorem dX0_endTurns_27 : decode cX0_endTurns 27 = .ok (.getfield 129, 3) := by decide +kernel
theorem dX0_endTurns_30 : decode cX0_endTurns 30 = .ok (.aload_n 2, 1) := by decide +kernel
theorem dX0_endTurns_31 : decode cX0_endTurns 31 = .ok (.getfield 211, 3) := by decide +kernel
theorem dX0_endTurns_34 : decode cX0_endTurns 34 = .ok (.invokevirtual 214, 3) := by decide +kernel
theorem dX0_endTurns_37 : decode cX0_endTurns 37 = .ok (.ifCond .eq 44, 3) := by decide +kernel
theorem dX0_endTurns_40 : decode cX0_endTurns 40 = .ok (.aload_n 0, 1) := by decide +kernel
theorem dX0_endTurns_41 : decode cX0_endTurns 41 = .ok (.getfield 41, 3) := by decide +kernel
theorem dX0_endTurns_44 : decode cX0_endTurns 44 = .ok (.iload_n 1, 1) := by decide +kernel
theorem dX0_endTurns_45 : decode cX0_endTurns 45 = .ok (.iconst (-1), 1) := by decide +kernel
theorem dX0_endTurns_46 : decode cX0_endTurns 46 = .ok (.iastore, 1) := by decide +kernel
theorem dX0_endTurns_47 : decode cX0_endTurns 47 = .ok (.aload_n 0, 1) := by decide +kernel
theorem dX0_endTurns_48 : decode cX0_endTurns 48 = .ok (.aload_n 2, 1) := by decide +kernel
theorem dX0_endTurns_49 : decode cX0_endTurns 49 = .ok (.invokevirtual 123, 3) := by decide +kernel
theorem dX0_endTurns_52 : decode cX0_endTurns 52 = .ok (.aload_n 0, 1) := by decide +kernel
theorem dX0_endTurns_53 : decode cX0_endTurns 53 = .ok (.getfield 12, 3) := by decide +kernel
theorem dX0_endTurns_56 : decode cX0_endTurns 56 = .ok (.getfield 107, 3) := by decide +kernel
theorem dX0_endTurns_59 : decode cX0_endTurns 59 = .ok (.iconst 1, 1) := by decide +kernel
theorem dX0_endTurns_60 : decode cX0_endTurns 60 = .ok (.if_icmp .ne 21, 3) := by decide +kernel
theorem dX0_endTurns_63 : decode cX0_endTurns 63 = .ok (.aload_n 2, 1) := by decide +kernel
theorem dX0_endTurns_64 : decode cX0_endTurns 64 = .ok (.getfield 129, 3) := by decide +kernel
theorem dX0_endTurns_67 : decode cX0_endTurns 67 = .ok (.iconst 3, 1) := by decide +kernel
theorem dX0_endTurns_68 : decode cX0_endTurns 68 = .ok (.if_icmp .ge 13, 3) := by decide +kernel
theorem dX0_endTurns_71 : decode cX0_endTurns 71 = .ok (.aload_n 2, 1) := by decide +kernel
theorem dX0_endTurns_72 : decode cX0_endTurns 72 = .ok (.dup, 1) := by decide +kernel
theorem dX0_endTurns_73 : decode cX0_endTurns 73 = .ok (.getfield 129, 3) := by decide +kernel
theorem dX0_endTurns_76 : decode cX0_endTurns 76 = .ok (.iconst 1, 1) := by decide +kernel
theorem dX0_endTurns_77 : decode cX0_endTurns 77 = .ok (.iadd, 1) := by decide +kernel
theorem dX0_endTurns_78 : decode cX0_endTurns 78 = .ok (.putfield 129, 3) := by decide +kernel
theorem dX0_endTurns_81 : decode cX0_endTurns 81 = .ok (.iinc 1 1, 3) := by decide +kernel
theorem dX0_endTurns_84 : decode cX0_endTurns 84 = .ok (.goto (-82), 3) := by decide +kernel
theorem dX0_endTurns_87 : decode cX0_endTurns 87 = .ok (.return_, 1) := by decide +kernel
theorem dX0_shareProcessors_0 : decode cX0_shareProcessors 0 = .ok (.aload_n 0, 1) := by decide +kernel
theorem dX0_shareProcessors_1 : decode cX0_shareProcessors 1 = .ok (.invokevirtual 148, 3) := by decide +kernel
theorem dX0_shareProcessors_4 : decode cX0_shareProcessors 4 = .ok (.aload_n 0, 1) := by decide +kernel
theorem dX0_shareProcessors_5 : decode cX0_shareProcessors 5 = .ok (.invokevirtual 217, 3) := by decide +kernel
theorem dX0_shareProcessors_8 : decode cX0_shareProcessors 8 = .ok (.istore_n 1, 1) := by decide +kernel
theorem dX0_shareProcessors_9 : decode cX0_shareProcessors 9 = .ok (.iconst 0, 1) := by decide +kernel
theorem dX0_shareProcessors_10 : decode cX0_shareProcessors 10 = .ok (.istore_n 2, 1) := by decide +kernel
theorem dX0_shareProcessors_11 : decode cX0_shareProcessors 11 = .ok (.iload_n 2, 1) := by decide +kernel
theorem dX0_shareProcessors_12 : decode cX0_shareProcessors 12 = .ok (.iconst 3, 1) := by decide +kernel
theorem dX0_shareProcessors_13 : decode cX0_shareProcessors 13 = .ok (.if_icmp .ge 45, 3) := by decide +kernel
theorem dX0_shareProcessors_16 : decode cX0_shareProcessors 16 = .ok (.aload_n 0, 1) := by decide +kernel
theorem dX0_shareProcessors_17 : decode cX0_shareProcessors 17 = .ok (.aload_n 0, 1) := by decide +kernel
theorem dX0_shareProcessors_18 : decode cX0_shareProcessors 18 = .ok (.getfield 41, 3) := by decide +kernel
theorem dX0_shareProcessors_21 : decode cX0_shareProcessors 21 = .ok (.iload_n 2, 1) := by decide +kernel
theorem dX0_shareProcessors_22 : decode cX0_shareProcessors 22 = .ok (.iaload, 1) := by decide +kernel
theorem dX0_shareProcessors_23 : decode cX0_shareProcessors 23 = .ok (.invokevirtual 103, 3) := by decide +kernel
theorem dX0_shareProcessors_26 : decode cX0_shareProcessors 26 = .ok (.astore_n 3, 1) := by decide +kernel
theorem dX0_shareProcessors_27 : decode cX0_shareProcessors 27 = .ok (.aload_n 3, 1) := by decide +kernel
theorem dX0_shareProcessors_28 : decode cX0_shareProcessors 28 = .ok (.ifnull 24, 3) := by decide +kernel
theorem dX0_shareProcessors_31 : decode cX0_shareProcessors 31 = .ok (.aload_n 0, 1) := by decide +kernel
theorem dX0_shareProcessors_32 : decode cX0_shareProcessors 32 = .ok (.aload_n 3, 1) := by decide +kernel
theorem dX0_shareProcessors_33 : decode cX0_shareProcessors 33 = .ok (.iload_n 1, 1) := by decide +kernel
theorem dX0_shareProcessors_34 : decode cX0_shareProcessors 34 = .ok (.invokevirtual 221, 3) := by decide +kernel
theorem dX0_shareProcessors_37 : decode cX0_shareProcessors 37 = .ok (.ifCond .ne 15, 3) := by decide +kernel
theorem dX0_shareProcessors_40 : decode cX0_shareProcessors 40 = .ok (.aload_n 0, 1) := by decide +kernel
theorem dX0_shareProcessors_41 : decode cX0_shareProcessors 41 = .ok (.getfield 41, 3) := by decide +kernel
theorem dX0_shareProcessors_44 : decode cX0_shareProcessors 44 = .ok (.iload_n 2, 1) := by decide +kernel
theorem dX0_shareProcessors_45 : decode cX0_shareProcessors 45 = .ok (.iconst (-1), 1) := by decide +kernel
theorem dX0_shareProcessors_46 : decode cX0_shareProcessors 46 = .ok (.iastore, 1) := by decide +kernel
theorem dX0_shareProcessors_47 : decode cX0_shareProcessors 47 = .ok (.aload_n 3, 1) := by decide +kernel
theorem dX0_shareProcessors_48 : decode cX0_shareProcessors 48 = .ok (.iconst 1, 1) := by decide +kernel
theorem dX0_shareProcessors_49 : decode cX0_shareProcessors 49 = .ok (.putfield 82, 3) := by decide +kernel
theorem dX0_shareProcessors_52 : decode cX0_shareProcessors 52 = .ok (.iinc 2 1, 3) := by decide +kernel
theorem dX0_shareProcessors_55 : decode cX0_shareProcessors 55 = .ok (.goto (-44), 3) := by decide +kernel
theorem dX0_shareProcessors_58 : decode cX0_shareProcessors 58 = .ok (.iconst 0, 1) := by decide +kernel
theorem dX0_shareProcessors_59 : decode cX0_shareProcessors 59 = .ok (.istore_n 2, 1) := by decide +kernel
theorem dX0_shareProcessors_60 : decode cX0_shareProcessors 60 = .ok (.iload_n 2, 1) := by decide +kernel
theorem dX0_shareProcessors_61 : decode cX0_shareProcessors 61 = .ok (.iload_n 1, 1) := by decide +kernel
theorem dX0_shareProcessors_62 : decode cX0_shareProcessors 62 = .ok (.if_icmp .ge 42, 3) := by decide +kernel
theorem dX0_shareProcessors_65 : decode cX0_shareProcessors 65 = .ok (.iload_n 2, 1) := by decide +kernel
theorem dX0_shareProcessors_66 : decode cX0_shareProcessors 66 = .ok (.iconst 3, 1) := by decide +kernel
theorem dX0_shareProcessors_67 : decode cX0_shareProcessors 67 = .ok (.if_icmp .ge 37, 3) := by decide +kernel
theorem dX0_shareProcessors_70 : decode cX0_shareProcessors 70 = .ok (.aload_n 0, 1) := by decide +kernel
theorem dX0_shareProcessors_71 : decode cX0_shareProcessors 71 = .ok (.aload_n 0, 1) := by decide +kernel
theorem dX0_shareProcessors_72 : decode cX0_shareProcessors 72 = .ok (.getfield 44, 3) := by decide +kernel
theorem dX0_shareProcessors_75 : decode cX0_shareProcessors 75 = .ok (.iload_n 2, 1) := by decide +kernel
theorem dX0_shareProcessors_76 : decode cX0_shareProcessors 76 = .ok (.iaload, 1) := by decide +kernel
theorem dX0_shareProcessors_77 : decode cX0_shareProcessors 77 = .ok (.invokevirtual 103, 3) := by decide +kernel
theorem dX0_shareProcessors_80 : decode cX0_shareProcessors 80 = .ok (.astore_n 3, 1) := by decide +kernel
theorem dX0_shareProcessors_81 : decode cX0_shareProcessors 81 = .ok (.aload_n 3, 1) := by decide +kernel
theorem dX0_shareProcessors_82 : decode cX0_shareProcessors 82 = .ok (.ifnull 16, 3) := by decide +kernel
theorem dX0_shareProcessors_85 : decode cX0_shareProcessors 85 = .ok (.aload_n 3, 1) := by decide +kernel
theorem dX0_shareProcessors_86 : decode cX0_shareProcessors 86 = .ok (.getfield 82, 3) := by decide +kernel
theorem dX0_shareProcessors_89 : decode cX0_shareProcessors 89 = .ok (.iconst 1, 1) := by decide +kernel
theorem dX0_shareProcessors_90 : decode cX0_shareProcessors 90 = .ok (.if_icmp .ne 8, 3) := by decide +kernel
theorem dX0_shareProcessors_93 : decode cX0_shareProcessors 93 = .ok (.aload_n 0, 1) := by decide +kernel
theorem dX0_shareProcessors_94 : decode cX0_shareProcessors 94 = .ok (.aload_n 3, 1) := by decide +kernel
theorem dX0_shareProcessors_95 : decode cX0_shareProcessors 95 = .ok (.invokevirtual 225, 3) := by decide +kernel
theorem dX0_shareProcessors_98 : decode cX0_shareProcessors 98 = .ok (.iinc 2 1, 3) := by decide +kernel
theorem dX0_shareProcessors_101 : decode cX0_shareProcessors 101 = .ok (.goto (-41), 3) := by decide +kernel
theorem dX0_shareProcessors_104 : decode cX0_shareProcessors 104 = .ok (.return_, 1) := by decide +kernel
theorem dX0_takeInOrder_0 : decode cX0_takeInOrder 0 = .ok (.aload_n 0, 1) := by decide +kernel
theorem dX0_takeInOrder_1 : decode cX0_takeInOrder 1 = .ok (.iconst 1, 1) := by decide +kernel
theorem dX0_takeInOrder_2 : decode cX0_takeInOrder 2 = .ok (.invokevirtual 228, 3) := by decide +kernel
theorem dX0_takeInOrder_5 : decode cX0_takeInOrder 5 = .ok (.aload_n 0, 1) := by decide +kernel
theorem dX0_takeInOrder_6 : decode cX0_takeInOrder 6 = .ok (.iconst 2, 1) := by decide +kernel
theorem dX0_takeInOrder_7 : decode cX0_takeInOrder 7 = .ok (.invokevirtual 228, 3) := by decide +kernel
theorem dX0_takeInOrder_10 : decode cX0_takeInOrder 10 = .ok (.ior, 1) := by decide +kernel
theorem dX0_takeInOrder_11 : decode cX0_takeInOrder 11 = .ok (.istore_n 1, 1) := by decide +kernel
theorem dX0_takeInOrder_12 : decode cX0_takeInOrder 12 = .ok (.iconst 0, 1) := by decide +kernel
theorem dX0_takeInOrder_13 : decode cX0_takeInOrder 13 = .ok (.istore_n 2, 1) := by decide +kernel
theorem dX0_takeInOrder_14 : decode cX0_takeInOrder 14 = .ok (.iconst 0, 1) := by decide +kernel
theorem dX0_takeInOrder_15 : decode cX0_takeInOrder 15 = .ok (.istore_n 3, 1) := by decide +kernel
theorem dX0_takeInOrder_16 : decode cX0_takeInOrder 16 = .ok (.iload_n 3, 1) := by decide +kernel
theorem dX0_takeInOrder_17 : decode cX0_takeInOrder 17 = .ok (.iconst 4, 1) := by decide +kernel
theorem dX0_takeInOrder_18 : decode cX0_takeInOrder 18 = .ok (.if_icmp .ge 16, 3) := by decide +kernel
theorem dX0_takeInOrder_21 : decode cX0_takeInOrder 21 = .ok (.aload_n 0, 1) := by decide +kernel
theorem dX0_takeInOrder_22 : decode cX0_takeInOrder 22 = .ok (.getfield 47, 3) := by decide +kernel
theorem dX0_takeInOrder_25 : decode cX0_takeInOrder 25 = .ok (.iload_n 3, 1) := by decide +kernel
theorem dX0_takeInOrder_26 : decode cX0_takeInOrder 26 = .ok (.iconst 0, 1) := by decide +kernel
theorem dX0_takeInOrder_27 : decode cX0_takeInOrder 27 = .ok (.iastore, 1) := by decide +kernel
theorem dX0_takeInOrder_28 : decode cX0_takeInOrder 28 = .ok (.iinc 3 1, 3) := by decide +kernel
theorem dX0_takeInOrder_31 : decode cX0_takeInOrder 31 = .ok (.goto (-15), 3) := by decide +kernel
theorem dX0_takeInOrder_34 : decode cX0_takeInOrder 34 = .ok (.iconst 0, 1) := by decide +kernel
theorem dX0_takeInOrder_35 : decode cX0_takeInOrder 35 = .ok (.istore_n 3, 1) := by decide +kernel
theorem dX0_takeInOrder_36 : decode cX0_takeInOrder 36 = .ok (.iload_n 3, 1) := by decide +kernel
theorem dX0_takeInOrder_37 : decode cX0_takeInOrder 37 = .ok (.bipush 16, 2) := by decide +kernel
theorem dX0_takeInOrder_39 : decode cX0_takeInOrder 39 = .ok (.if_icmp .ge 77, 3) := by decide +kernel
theorem dX0_takeInOrder_42 : decode cX0_takeInOrder 42 = .ok (.iload_n 2, 1) := by decide +kernel
theorem dX0_takeInOrder_43 : decode cX0_takeInOrder 43 = .ok (.aload_n 0, 1) := by decide +kernel
theorem dX0_takeInOrder_44 : decode cX0_takeInOrder 44 = .ok (.getfield 12, 3) := by decide +kernel
theorem dX0_takeInOrder_47 : decode cX0_takeInOrder 47 = .ok (.getfield 182, 3) := by decide +kernel
theorem dX0_takeInOrder_50 : decode cX0_takeInOrder 50 = .ok (.if_icmp .ge 66, 3) := by decide +kernel
theorem dX0_takeInOrder_53 : decode cX0_takeInOrder 53 = .ok (.aload_n 0, 1) := by decide +kernel
theorem dX0_takeInOrder_54 : decode cX0_takeInOrder 54 = .ok (.iload_n 1, 1) := by decide +kernel
theorem dX0_takeInOrder_55 : decode cX0_takeInOrder 55 = .ok (.invokevirtual 231, 3) := by decide +kernel
theorem dX0_takeInOrder_58 : decode cX0_takeInOrder 58 = .ok (.astore 4, 2) := by decide +kernel
theorem dX0_takeInOrder_60 : decode cX0_takeInOrder 60 = .ok (.aload 4, 2) := by decide +kernel
theorem dX0_takeInOrder_62 : decode cX0_takeInOrder 62 = .ok (.ifnonnull 5, 3) := by decide +kernel
theorem dX0_takeInOrder_65 : decode cX0_takeInOrder 65 = .ok (.iload_n 2, 1) := by decide +kernel
theorem dX0_takeInOrder_66 : decode cX0_takeInOrder 66 = .ok (.ireturn, 1) := by decide +kernel
theorem dX0_takeInOrder_67 : decode cX0_takeInOrder 67 = .ok (.iload_n 1, 1) := by decide +kernel
theorem dX0_takeInOrder_68 : decode cX0_takeInOrder 68 = .ok (.iconst 1, 1) := by decide +kernel
theorem dX0_takeInOrder_69 : decode cX0_takeInOrder 69 = .ok (.aload 4, 2) := by decide +kernel
theorem dX0_takeInOrder_71 : decode cX0_takeInOrder 71 = .ok (.getfield 85, 3) := by decide +kernel
theorem dX0_takeInOrder_74 : decode cX0_takeInOrder 74 = .ok (.ishl, 1) := by decide +kernel
theorem dX0_takeInOrder_75 : decode cX0_takeInOrder 75 = .ok (.iconst (-1), 1) := by decide +kernel
theorem dX0_takeInOrder_76 : decode cX0_takeInOrder 76 = .ok (.ixor, 1) := by decide +kernel
theorem dX0_takeInOrder_77 : decode cX0_takeInOrder 77 = .ok (.iand, 1) := by decide +kernel
theorem dX0_takeInOrder_78 : decode cX0_takeInOrder 78 = .ok (.istore_n 1, 1) := by decide +kernel
theorem dX0_takeInOrder_79 : decode cX0_takeInOrder 79 = .ok (.iload_n 2, 1) := by decide +kernel
theorem dX0_takeInOrder_80 : decode cX0_takeInOrder 80 = .ok (.iconst 3, 1) := by decide +kernel
theorem dX0_takeInOrder_81 : decode cX0_takeInOrder 81 = .ok (.if_icmp .ge 29, 3) := by decide +kernel
theorem dX0_takeInOrder_84 : decode cX0_takeInOrder 84 = .ok (.aload_n 0, 1) := by decide +kernel
theorem dX0_takeInOrder_85 : decode cX0_takeInOrder 85 = .ok (.aload 4, 2) := by decide +kernel
theorem dX0_takeInOrder_87 : decode cX0_takeInOrder 87 = .ok (.getfield 234, 3) := by decide +kernel
theorem dX0_takeInOrder_90 : decode cX0_takeInOrder 90 = .ok (.invokevirtual 237, 3) := by decide +kernel
theorem dX0_takeInOrder_93 : decode cX0_takeInOrder 93 = .ok (.ifCond .eq 17, 3) := by decide +kernel
theorem dX0_takeInOrder_96 : decode cX0_takeInOrder 96 = .ok (.aload_n 0, 1) := by decide +kernel
theorem dX0_takeInOrder_97 : decode cX0_takeInOrder 97 = .ok (.getfield 44, 3) := by decide +kernel
theorem dX0_takeInOrder_100 : decode cX0_takeInOrder 100 = .ok (.iload_n 2, 1) := by decide +kernel
theorem dX0_takeInOrder_101 : decode cX0_takeInOrder 101 = .ok (.aload 4, 2) := by decide +kernel
theorem dX0_takeInOrder_103 : decode cX0_takeInOrder 103 = .ok (.getfield 85, 3) := by decide +kernel
theorem dX0_takeInOrder_106 : decode cX0_takeInOrder 106 = .ok (.iastore, 1) := by decide +kernel
theorem dX0_takeInOrder_107 : decode cX0_takeInOrder 107 = .ok (.iinc 2 1, 3) := by decide +kernel
theorem dX0_takeInOrder_110 : decode cX0_takeInOrder 110 = .ok (.iinc 3 1, 3) := by decide +kernel
theorem dX0_takeInOrder_113 : decode cX0_takeInOrder 113 = .ok (.goto (-77), 3) := by decide +kernel
theorem dX0_takeInOrder_116 : decode cX0_takeInOrder 116 = .ok (.iload_n 2, 1) := by decide +kernel
theorem dX0_takeInOrder_117 : decode cX0_takeInOrder 117 = .ok (.ireturn, 1) := by decide +kernel
theorem dX0_firstOf_0 : decode cX0_firstOf 0 = .ok (.aconst_null, 1) := by decide +kernel
theorem dX0_firstOf_1 : decode cX0_firstOf 1 = .ok (.astore_n 2, 1) := by decide +kernel
theorem dX0_firstOf_2 : decode cX0_firstOf 2 = .ok (.aload_n 0, 1) := by decide +kernel
theorem dX0_firstOf_3 : decode cX0_firstOf 3 = .ok (.getfield 27, 3) := by decide +kernel
theorem dX0_firstOf_6 : decode cX0_firstOf 6 = .ok (.astore_n 3, 1) := by decide +kernel
theorem dX0_firstOf_7 : decode cX0_firstOf 7 = .ok (.aload_n 3, 1) := by decide +kernel
theorem dX0_firstOf_8 : decode cX0_firstOf 8 = .ok (.arraylength, 1) := by decide +kernel
theorem dX0_firstOf_9 : decode cX0_firstOf 9 = .ok (.istore 4, 2) := by decide +kernel
theorem dX0_firstOf_11 : decode cX0_firstOf 11 = .ok (.iconst 0, 1) := by decide +kernel
theorem dX0_firstOf_12 : decode cX0_firstOf 12 = .ok (.istore 5, 2) := by decide +kernel
theorem dX0_firstOf_14 : decode cX0_firstOf 14 = .ok (.iload 5, 2) := by decide +kernel
theorem dX0_firstOf_16 : decode cX0_firstOf 16 = .ok (.iload 4, 2) := by decide +kernel
theorem dX0_firstOf_18 : decode cX0_firstOf 18 = .ok (.if_icmp .ge 55, 3) := by decide +kernel
theorem dX0_firstOf_21 : decode cX0_firstOf 21 = .ok (.aload_n 3, 1) := by decide +kernel
theorem dX0_firstOf_22 : decode cX0_firstOf 22 = .ok (.iload 5, 2) := by decide +kernel
theorem dX0_firstOf_24 : decode cX0_firstOf 24 = .ok (.aaload, 1) := by decide +kernel
theorem dX0_firstOf_25 : decode cX0_firstOf 25 = .ok (.astore 6, 2) := by decide +kernel
theorem dX0_firstOf_27 : decode cX0_firstOf 27 = .ok (.iload_n 1, 1) := by decide +kernel
theorem dX0_firstOf_28 : decode cX0_firstOf 28 = .ok (.iconst 1, 1) := by decide +kernel
theorem dX0_firstOf_29 : decode cX0_firstOf 29 = .ok (.aload 6, 2) := by decide +kernel
theorem dX0_firstOf_31 : decode cX0_firstOf 31 = .ok (.getfield 85, 3) := by decide +kernel
theorem dX0_firstOf_34 : decode cX0_firstOf 34 = .ok (.ishl, 1) := by decide +kernel
theorem dX0_firstOf_35 : decode cX0_firstOf 35 = .ok (.iand, 1) := by decide +kernel
theorem dX0_firstOf_36 : decode cX0_firstOf 36 = .ok (.ifCond .eq 7, 3) := by decide +kernel
theorem dX0_firstOf_39 : decode cX0_firstOf 39 = .ok (.iconst 1, 1) := by decide +kernel
theorem dX0_firstOf_40 : decode cX0_firstOf 40 = .ok (.goto 4, 3) := by decide +kernel
theorem dX0_firstOf_43 : decode cX0_firstOf 43 = .ok (.iconst 0, 1) := by decide +kernel
theorem dX0_firstOf_44 : decode cX0_firstOf 44 = .ok (.istore 7, 2) := by decide +kernel
theorem dX0_firstOf_46 : decode cX0_firstOf 46 = .ok (.iload 7, 2) := by decide +kernel
theorem dX0_firstOf_48 : decode cX0_firstOf 48 = .ok (.ifCond .eq 19, 3) := by decide +kernel
theorem dX0_firstOf_51 : decode cX0_firstOf 51 = .ok (.aload_n 2, 1) := by decide +kernel
theorem dX0_firstOf_52 : decode cX0_firstOf 52 = .ok (.ifnull 12, 3) := by decide +kernel
theorem dX0_firstOf_55 : decode cX0_firstOf 55 = .ok (.aload 6, 2) := by decide +kernel
theorem dX0_firstOf_57 : decode cX0_firstOf 57 = .ok (.aload_n 2, 1) := by decide +kernel
theorem dX0_firstOf_58 : decode cX0_firstOf 58 = .ok (.invokevirtual 241, 3) := by decide +kernel
theorem dX0_firstOf_61 : decode cX0_firstOf 61 = .ok (.ifCond .eq 6, 3) := by decide +kernel
theorem dX0_firstOf_64 : decode cX0_firstOf 64 = .ok (.aload 6, 2) := by decide +kernel
theorem dX0_firstOf_66 : decode cX0_firstOf 66 = .ok (.astore_n 2, 1) := by decide +kernel
theorem dX0_firstOf_67 : decode cX0_firstOf 67 = .ok (.iinc 5 1, 3) := by decide +kernel
theorem dX0_firstOf_70 : decode cX0_firstOf 70 = .ok (.goto (-56), 3) := by decide +kernel
theorem dX0_firstOf_73 : decode cX0_firstOf 73 = .ok (.aload_n 2, 1) := by decide +kernel
theorem dX0_firstOf_74 : decode cX0_firstOf 74 = .ok (.areturn, 1) := by decide +kernel
theorem dX0_takeOfGroup_0 : decode cX0_takeOfGroup 0 = .ok (.iload_n 1, 1) := by decide +kernel
theorem dX0_takeOfGroup_1 : decode cX0_takeOfGroup 1 = .ok (.ifCond .lt 8, 3) := by decide +kernel
theorem dX0_takeOfGroup_4 : decode cX0_takeOfGroup 4 = .ok (.iload_n 1, 1) := by decide +kernel
theorem dX0_takeOfGroup_5 : decode cX0_takeOfGroup 5 = .ok (.iconst 4, 1) := by decide +kernel
theorem dX0_takeOfGroup_6 : decode cX0_takeOfGroup 6 = .ok (.if_icmp .lt 5, 3) := by decide +kernel
theorem dX0_takeOfGroup_9 : decode cX0_takeOfGroup 9 = .ok (.iconst 0, 1) := by decide +kernel
theorem dX0_takeOfGroup_10 : decode cX0_takeOfGroup 10 = .ok (.ireturn, 1) := by decide +kernel
theorem dX0_takeOfGroup_11 : decode cX0_takeOfGroup 11 = .ok (.aload_n 0, 1) := by decide +kernel
theorem dX0_takeOfGroup_12 : decode cX0_takeOfGroup 12 = .ok (.getfield 12, 3) := by decide +kernel
theorem dX0_takeOfGroup_15 : decode cX0_takeOfGroup 15 = .ok (.getfield 244, 3) := by decide +kernel
theorem dX0_takeOfGroup_18 : decode cX0_takeOfGroup 18 = .ok (.iload_n 1, 1) := by decide +kernel
theorem dX0_takeOfGroup_19 : decode cX0_takeOfGroup 19 = .ok (.iaload, 1) := by decide +kernel
theorem dX0_takeOfGroup_20 : decode cX0_takeOfGroup 20 = .ok (.istore_n 2, 1) := by decide +kernel
theorem dX0_takeOfGroup_21 : decode cX0_takeOfGroup 21 = .ok (.iload_n 2, 1) := by decide +kernel
theorem dX0_takeOfGroup_22 : decode cX0_takeOfGroup 22 = .ok (.ifCond .eq 22, 3) := by decide +kernel
theorem dX0_takeOfGroup_25 : decode cX0_takeOfGroup 25 = .ok (.aload_n 0, 1) := by decide +kernel
theorem dX0_takeOfGroup_26 : decode cX0_takeOfGroup 26 = .ok (.getfield 31, 3) := by decide +kernel
theorem dX0_takeOfGroup_29 : decode cX0_takeOfGroup 29 = .ok (.iload_n 1, 1) := by decide +kernel
theorem dX0_takeOfGroup_30 : decode cX0_takeOfGroup 30 = .ok (.iaload, 1) := by decide +kernel
theorem dX0_takeOfGroup_31 : decode cX0_takeOfGroup 31 = .ok (.aload_n 0, 1) := by decide +kernel
theorem dX0_takeOfGroup_32 : decode cX0_takeOfGroup 32 = .ok (.getfield 47, 3) := by decide +kernel
theorem dX0_takeOfGroup_35 : decode cX0_takeOfGroup 35 = .ok (.iload_n 1, 1) := by decide +kernel
theorem dX0_takeOfGroup_36 : decode cX0_takeOfGroup 36 = .ok (.iaload, 1) := by decide +kernel
theorem dX0_takeOfGroup_37 : decode cX0_takeOfGroup 37 = .ok (.iadd, 1) := by decide +kernel
theorem dX0_takeOfGroup_38 : decode cX0_takeOfGroup 38 = .ok (.iload_n 2, 1) := by decide +kernel
theorem dX0_takeOfGroup_39 : decode cX0_takeOfGroup 39 = .ok (.if_icmp .lt 5, 3) := by decide +kernel
theorem dX0_takeOfGroup_42 : decode cX0_takeOfGroup 42 = .ok (.iconst 0, 1) := by decide +kernel
theorem dX0_takeOfGroup_43 : decode cX0_takeOfGroup 43 = .ok (.ireturn, 1) := by decide +kernel
theorem dX0_takeOfGroup_44 : decode cX0_takeOfGroup 44 = .ok (.aload_n 0, 1) := by decide +kernel
theorem dX0_takeOfGroup_45 : decode cX0_takeOfGroup 45 = .ok (.getfield 47, 3) := by decide +kernel
theorem dX0_takeOfGroup_48 : decode cX0_takeOfGroup 48 = .ok (.iload_n 1, 1) := by decide +kernel
theorem dX0_takeOfGroup_49 : decode cX0_takeOfGroup 49 = .ok (.dup2, 1) := by decide +kernel
theorem dX0_takeOfGroup_50 : decode cX0_takeOfGroup 50 = .ok (.iaload, 1) := by decide +kernel
theorem dX0_takeOfGroup_51 : decode cX0_takeOfGroup 51 = .ok (.iconst 1, 1) := by decide +kernel
theorem dX0_takeOfGroup_52 : decode cX0_takeOfGroup 52 = .ok (.iadd, 1) := by decide +kernel
theorem dX0_takeOfGroup_53 : decode cX0_takeOfGroup 53 = .ok (.iastore, 1) := by decide +kernel
theorem dX0_takeOfGroup_54 : decode cX0_takeOfGroup 54 = .ok (.iconst 1, 1) := by decide +kernel
theorem dX0_takeOfGroup_55 : decode cX0_takeOfGroup 55 = .ok (.ireturn, 1) := by decide +kernel
theorem dX0_isTaken_0 : decode cX0_isTaken 0 = .ok (.iconst 0, 1) := by decide +kernel
theorem dX0_isTaken_1 : decode cX0_isTaken 1 = .ok (.istore_n 3, 1) := by decide +kernel
theorem dX0_isTaken_2 : decode cX0_isTaken 2 = .ok (.iload_n 3, 1) := by decide +kernel
theorem dX0_isTaken_3 : decode cX0_isTaken 3 = .ok (.iload_n 2, 1) := by decide +kernel
theorem dX0_isTaken_4 : decode cX0_isTaken 4 = .ok (.if_icmp .ge 29, 3) := by decide +kernel
theorem dX0_isTaken_7 : decode cX0_isTaken 7 = .ok (.iload_n 3, 1) := by decide +kernel
theorem dX0_isTaken_8 : decode cX0_isTaken 8 = .ok (.iconst 3, 1) := by decide +kernel
theorem dX0_isTaken_9 : decode cX0_isTaken 9 = .ok (.if_icmp .ge 24, 3) := by decide +kernel
theorem dX0_isTaken_12 : decode cX0_isTaken 12 = .ok (.aload_n 0, 1) := by decide +kernel
theorem dX0_isTaken_13 : decode cX0_isTaken 13 = .ok (.getfield 44, 3) := by decide +kernel
theorem dX0_isTaken_16 : decode cX0_isTaken 16 = .ok (.iload_n 3, 1) := by decide +kernel
theorem dX0_isTaken_17 : decode cX0_isTaken 17 = .ok (.iaload, 1) := by decide +kernel
theorem dX0_isTaken_18 : decode cX0_isTaken 18 = .ok (.aload_n 1, 1) := by decide +kernel
theorem dX0_isTaken_19 : decode cX0_isTaken 19 = .ok (.getfield 85, 3) := by decide +kernel
theorem dX0_isTaken_22 : decode cX0_isTaken 22 = .ok (.if_icmp .ne 5, 3) := by decide +kernel
theorem dX0_isTaken_25 : decode cX0_isTaken 25 = .ok (.iconst 1, 1) := by decide +kernel
theorem dX0_isTaken_26 : decode cX0_isTaken 26 = .ok (.ireturn, 1) := by decide +kernel
theorem dX0_isTaken_27 : decode cX0_isTaken 27 = .ok (.iinc 3 1, 3) := by decide +kernel
theorem dX0_isTaken_30 : decode cX0_isTaken 30 = .ok (.goto (-28), 3) := by decide +kernel
theorem dX0_isTaken_33 : decode cX0_isTaken 33 = .ok (.iconst 0, 1) := by decide +kernel
theorem dX0_isTaken_34 : decode cX0_isTaken 34 = .ok (.ireturn, 1) := by decide +kernel
theorem dX0_switchTo_0 : decode cX0_switchTo 0 = .ok (.iconst 0, 1) := by decide +kernel
theorem dX0_switchTo_1 : decode cX0_switchTo 1 = .ok (.istore_n 2, 1) := by decide +kernel
theorem dX0_switchTo_2 : decode cX0_switchTo 2 = .ok (.iload_n 2, 1) := by decide +kernel
theorem dX0_switchTo_3 : decode cX0_switchTo 3 = .ok (.aload_n 0, 1) := by decide +kernel
theorem dX0_switchTo_4 : decode cX0_switchTo 4 = .ok (.getfield 12, 3) := by decide +kernel
theorem dX0_switchTo_7 : decode cX0_switchTo 7 = .ok (.getfield 182, 3) := by decide +kernel
theorem dX0_switchTo_10 : decode cX0_switchTo 10 = .ok (.if_icmp .ge 58, 3) := by decide +kernel
theorem dX0_switchTo_13 : decode cX0_switchTo 13 = .ok (.iload_n 2, 1) := by decide +kernel
theorem dX0_switchTo_14 : decode cX0_switchTo 14 = .ok (.iconst 3, 1) := by decide +kernel
theorem dX0_switchTo_15 : decode cX0_switchTo 15 = .ok (.if_icmp .ge 53, 3) := by decide +kernel
theorem dX0_switchTo_18 : decode cX0_switchTo 18 = .ok (.aload_n 0, 1) := by decide +kernel
theorem dX0_switchTo_19 : decode cX0_switchTo 19 = .ok (.getfield 41, 3) := by decide +kernel
theorem dX0_switchTo_22 : decode cX0_switchTo 22 = .ok (.iload_n 2, 1) := by decide +kernel
theorem dX0_switchTo_23 : decode cX0_switchTo 23 = .ok (.iaload, 1) := by decide +kernel
theorem dX0_switchTo_24 : decode cX0_switchTo 24 = .ok (.iconst (-1), 1) := by decide +kernel
theorem dX0_switchTo_25 : decode cX0_switchTo 25 = .ok (.if_icmp .ne 37, 3) := by decide +kernel
theorem dX0_switchTo_28 : decode cX0_switchTo 28 = .ok (.aload_n 0, 1) := by decide +kernel
theorem dX0_switchTo_29 : decode cX0_switchTo 29 = .ok (.getfield 41, 3) := by decide +kernel
theorem dX0_switchTo_32 : decode cX0_switchTo 32 = .ok (.iload_n 2, 1) := by decide +kernel
theorem dX0_switchTo_33 : decode cX0_switchTo 33 = .ok (.aload_n 1, 1) := by decide +kernel
theorem dX0_switchTo_34 : decode cX0_switchTo 34 = .ok (.getfield 85, 3) := by decide +kernel
theorem dX0_switchTo_37 : decode cX0_switchTo 37 = .ok (.iastore, 1) := by decide +kernel
theorem dX0_switchTo_38 : decode cX0_switchTo 38 = .ok (.aload_n 1, 1) := by decide +kernel
theorem dX0_switchTo_39 : decode cX0_switchTo 39 = .ok (.iconst 2, 1) := by decide +kernel
theorem dX0_switchTo_40 : decode cX0_switchTo 40 = .ok (.putfield 82, 3) := by decide +kernel
theorem dX0_switchTo_43 : decode cX0_switchTo 43 = .ok (.aload_n 1, 1) := by decide +kernel
theorem dX0_switchTo_44 : decode cX0_switchTo 44 = .ok (.iconst 0, 1) := by decide +kernel
theorem dX0_switchTo_45 : decode cX0_switchTo 45 = .ok (.putfield 211, 3) := by decide +kernel
theorem dX0_switchTo_48 : decode cX0_switchTo 48 = .ok (.aload_n 0, 1) := by decide +kernel
theorem dX0_switchTo_49 : decode cX0_switchTo 49 = .ok (.getfield 21, 3) := by decide +kernel
theorem dX0_switchTo_52 : decode cX0_switchTo 52 = .ok (.dup, 1) := by decide +kernel
theorem dX0_switchTo_53 : decode cX0_switchTo 53 = .ok (.getfield 247, 3) := by decide +kernel
theorem dX0_switchTo_56 : decode cX0_switchTo 56 = .ok (.iconst 1, 1) := by decide +kernel
theorem dX0_switchTo_57 : decode cX0_switchTo 57 = .ok (.iadd, 1) := by decide +kernel
theorem dX0_switchTo_58 : decode cX0_switchTo 58 = .ok (.putfield 247, 3) := by decide +kernel
theorem dX0_switchTo_61 : decode cX0_switchTo 61 = .ok (.return_, 1) := by decide +kernel
theorem dX0_switchTo_62 : decode cX0_switchTo 62 = .ok (.iinc 2 1, 3) := by decide +kernel
theorem dX0_switchTo_65 : decode cX0_switchTo 65 = .ok (.goto (-63), 3) := by decide +kernel
theorem dX0_switchTo_68 : decode cX0_switchTo 68 = .ok (.return_, 1) := by decide +kernel
theorem dX0_passSteps_0 : decode cX0_passSteps 0 = .ok (.iconst 0, 1) := by decide +kernel
theorem dX0_passSteps_1 : decode cX0_passSteps 1 = .ok (.istore_n 2, 1) := by decide +kernel
theorem dX0_passSteps_2 : decode cX0_passSteps 2 = .ok (.iload_n 2, 1) := by decide +kernel
theorem dX0_passSteps_3 : decode cX0_passSteps 3 = .ok (.bipush 16, 2) := by decide +kernel
theorem dX0_passSteps_5 : decode cX0_passSteps 5 = .ok (.if_icmp .ge 183, 3) := by decide +kernel
theorem dX0_passSteps_8 : decode cX0_passSteps 8 = .ok (.aload_n 1, 1) := by decide +kernel
theorem dX0_passSteps_9 : decode cX0_passSteps 9 = .ok (.ifnull 179, 3) := by decide +kernel
theorem dX0_passSteps_12 : decode cX0_passSteps 12 = .ok (.aload_n 1, 1) := by decide +kernel
theorem dX0_passSteps_13 : decode cX0_passSteps 13 = .ok (.getfield 82, 3) := by decide +kernel
theorem dX0_passSteps_16 : decode cX0_passSteps 16 = .ok (.iconst 2, 1) := by decide +kernel
theorem dX0_passSteps_17 : decode cX0_passSteps 17 = .ok (.if_icmp .ne 171, 3) := by decide +kernel
theorem dX0_passSteps_20 : decode cX0_passSteps 20 = .ok (.aload_n 1, 1) := by decide +kernel
theorem dX0_passSteps_21 : decode cX0_passSteps 21 = .ok (.getfield 154, 3) := by decide +kernel
theorem dX0_passSteps_24 : decode cX0_passSteps 24 = .ok (.istore_n 3, 1) := by decide +kernel
theorem dX0_passSteps_25 : decode cX0_passSteps 25 = .ok (.aload_n 1, 1) := by decide +kernel
theorem dX0_passSteps_26 : decode cX0_passSteps 26 = .ok (.getfield 250, 3) := by decide +kernel
theorem dX0_passSteps_29 : decode cX0_passSteps 29 = .ok (.iload_n 3, 1) := by decide +kernel
theorem dX0_passSteps_30 : decode cX0_passSteps 30 = .ok (.invokevirtual 254, 3) := by decide +kernel
theorem dX0_passSteps_33 : decode cX0_passSteps 33 = .ok (.istore 4, 2) := by decide +kernel
theorem dX0_passSteps_35 : decode cX0_passSteps 35 = .ok (.aload_n 1, 1) := by decide +kernel
theorem dX0_passSteps_36 : decode cX0_passSteps 36 = .ok (.getfield 250, 3) := by decide +kernel
theorem dX0_passSteps_39 : decode cX0_passSteps 39 = .ok (.iload_n 3, 1) := by decide +kernel
theorem dX0_passSteps_40 : decode cX0_passSteps 40 = .ok (.invokevirtual 259, 3) := by decide +kernel
theorem dX0_passSteps_43 : decode cX0_passSteps 43 = .ok (.istore 5, 2) := by decide +kernel
theorem dX0_passSteps_45 : decode cX0_passSteps 45 = .ok (.iload 4, 2) := by decide +kernel
theorem dX0_passSteps_47 : decode cX0_passSteps 47 = .ok (.ifCond .ne 4, 3) := by decide +kernel
theorem dX0_passSteps_50 : decode cX0_passSteps 50 = .ok (.return_, 1) := by decide +kernel
theorem dX0_passSteps_51 : decode cX0_passSteps 51 = .ok (.aload_n 1, 1) := by decide +kernel
theorem dX0_passSteps_52 : decode cX0_passSteps 52 = .ok (.iload_n 3, 1) := by decide +kernel
theorem dX0_passSteps_53 : decode cX0_passSteps 53 = .ok (.iconst 1, 1) := by decide +kernel
theorem dX0_passSteps_54 : decode cX0_passSteps 54 = .ok (.iadd, 1) := by decide +kernel
theorem dX0_passSteps_55 : decode cX0_passSteps 55 = .ok (.putfield 154, 3) := by decide +kernel
theorem dX0_passSteps_58 : decode cX0_passSteps 58 = .ok (.iload 4, 2) := by decide +kernel
theorem dX0_passSteps_60 : decode cX0_passSteps 60 = .ok (.tableswitch 91 1 5 #[36, 52, 62, 72, 81], 36) := by decide +kernel
theorem dX0_passSteps_96 : decode cX0_passSteps 96 = .ok (.aload_n 0, 1) := by decide +kernel
theorem dX0_passSteps_97 : decode cX0_passSteps 97 = .ok (.aload_n 1, 1) := by decide +kernel
theorem dX0_passSteps_98 : decode cX0_passSteps 98 = .ok (.iconst 3, 1) := by decide +kernel
theorem dX0_passSteps_99 : decode cX0_passSteps 99 = .ok (.aload_n 0, 1) := by decide +kernel
theorem dX0_passSteps_100 : decode cX0_passSteps 100 = .ok (.getfield 69, 3) := by decide +kernel
theorem dX0_passSteps_103 : decode cX0_passSteps 103 = .ok (.iload 5, 2) := by decide +kernel
theorem dX0_passSteps_105 : decode cX0_passSteps 105 = .ok (.iadd, 1) := by decide +kernel
theorem dX0_passSteps_106 : decode cX0_passSteps 106 = .ok (.invokevirtual 262, 3) := by decide +kernel
theorem dX0_passSteps_109 : decode cX0_passSteps 109 = .ok (.goto 52, 3) := by decide +kernel
theorem dX0_passSteps_112 : decode cX0_passSteps 112 = .ok (.aload_n 0, 1) := by decide +kernel
theorem dX0_passSteps_113 : decode cX0_passSteps 113 = .ok (.aload_n 1, 1) := by decide +kernel
theorem dX0_passSteps_114 : decode cX0_passSteps 114 = .ok (.iload 5, 2) := by decide +kernel
theorem dX0_passSteps_116 : decode cX0_passSteps 116 = .ok (.invokevirtual 266, 3) := by decide +kernel
theorem dX0_passSteps_119 : decode cX0_passSteps 119 = .ok (.goto 42, 3) := by decide +kernel
theorem dX0_passSteps_122 : decode cX0_passSteps 122 = .ok (.aload_n 0, 1) := by decide +kernel
theorem dX0_passSteps_123 : decode cX0_passSteps 123 = .ok (.aload_n 1, 1) := by decide +kernel
theorem dX0_passSteps_124 : decode cX0_passSteps 124 = .ok (.iload 5, 2) := by decide +kernel
theorem dX0_passSteps_126 : decode cX0_passSteps 126 = .ok (.invokevirtual 144, 3) := by decide +kernel
theorem dX0_passSteps_129 : decode cX0_passSteps 129 = .ok (.goto 32, 3) := by decide +kernel
theorem dX0_passSteps_132 : decode cX0_passSteps 132 = .ok (.aload_n 0, 1) := by decide +kernel
theorem dX0_passSteps_133 : decode cX0_passSteps 133 = .ok (.iload 5, 2) := by decide +kernel
theorem dX0_passSteps_135 : decode cX0_passSteps 135 = .ok (.invokevirtual 269, 3) := by decide +kernel
theorem dX0_passSteps_138 : decode cX0_passSteps 138 = .ok (.goto 23, 3) := by decide +kernel
theorem dX0_passSteps_141 : decode cX0_passSteps 141 = .ok (.aload_n 0, 1) := by decide +kernel
theorem dX0_passSteps_142 : decode cX0_passSteps 142 = .ok (.aload_n 1, 1) := by decide +kernel
theorem dX0_passSteps_143 : decode cX0_passSteps 143 = .ok (.iload 5, 2) := by decide +kernel
theorem dX0_passSteps_145 : decode cX0_passSteps 145 = .ok (.invokevirtual 272, 3) := by decide +kernel
theorem dX0_passSteps_148 : decode cX0_passSteps 148 = .ok (.goto 13, 3) := by decide +kernel
theorem dX0_passSteps_151 : decode cX0_passSteps 151 = .ok (.aload_n 0, 1) := by decide +kernel
theorem dX0_passSteps_152 : decode cX0_passSteps 152 = .ok (.aload_n 1, 1) := by decide +kernel
theorem dX0_passSteps_153 : decode cX0_passSteps 153 = .ok (.invokevirtual 132, 3) := by decide +kernel
theorem dX0_passSteps_156 : decode cX0_passSteps 156 = .ok (.aload_n 0, 1) := by decide +kernel
theorem dX0_passSteps_157 : decode cX0_passSteps 157 = .ok (.aload_n 1, 1) := by decide +kernel
theorem dX0_passSteps_158 : decode cX0_passSteps 158 = .ok (.invokevirtual 123, 3) := by decide +kernel
theorem dX0_passSteps_161 : decode cX0_passSteps 161 = .ok (.aload_n 1, 1) := by decide +kernel
theorem dX0_passSteps_162 : decode cX0_passSteps 162 = .ok (.getfield 82, 3) := by decide +kernel
theorem dX0_passSteps_165 : decode cX0_passSteps 165 = .ok (.iconst 4, 1) := by decide +kernel
theorem dX0_passSteps_166 : decode cX0_passSteps 166 = .ok (.if_icmp .eq 11, 3) := by decide +kernel
theorem dX0_passSteps_169 : decode cX0_passSteps 169 = .ok (.aload_n 1, 1) := by decide +kernel
theorem dX0_passSteps_170 : decode cX0_passSteps 170 = .ok (.getfield 82, 3) := by decide +kernel
theorem dX0_passSteps_173 : decode cX0_passSteps 173 = .ok (.iconst 5, 1) := by decide +kernel
theorem dX0_passSteps_174 : decode cX0_passSteps 174 = .ok (.if_icmp .ne 8, 3) := by decide +kernel
theorem dX0_passSteps_177 : decode cX0_passSteps 177 = .ok (.aload_n 1, 1) := by decide +kernel
theorem dX0_passSteps_178 : decode cX0_passSteps 178 = .ok (.iload_n 3, 1) := by decide +kernel
theorem dX0_passSteps_179 : decode cX0_passSteps 179 = .ok (.putfield 154, 3) := by decide +kernel
theorem dX0_passSteps_182 : decode cX0_passSteps 182 = .ok (.iinc 2 1, 3) := by decide +kernel
theorem dX0_passSteps_185 : decode cX0_passSteps 185 = .ok (.goto (-183), 3) := by decide +kernel
theorem dX0_passSteps_188 : decode cX0_passSteps 188 = .ok (.return_, 1) := by decide +kernel
theorem dX0_waitFor_0 : decode cX0_waitFor 0 = .ok (.aload_n 0, 1) := by decide +kernel
theorem dX0_waitFor_1 : decode cX0_waitFor 1 = .ok (.aload_n 1, 1) := by decide +kernel
theorem dX0_waitFor_2 : decode cX0_waitFor 2 = .ok (.invokevirtual 132, 3) := by decide +kernel
theorem dX0_waitFor_5 : decode cX0_waitFor 5 = .ok (.aload_n 1, 1) := by decide +kernel
theorem dX0_waitFor_6 : decode cX0_waitFor 6 = .ok (.iload_n 2, 1) := by decide +kernel
theorem dX0_waitFor_7 : decode cX0_waitFor 7 = .ok (.putfield 82, 3) := by decide +kernel
theorem dX0_waitFor_10 : decode cX0_waitFor 10 = .ok (.aload_n 1, 1) := by decide +kernel
theorem dX0_waitFor_11 : decode cX0_waitFor 11 = .ok (.iload_n 3, 1) := by decide +kernel
theorem dX0_waitFor_12 : decode cX0_waitFor 12 = .ok (.putfield 96, 3) := by decide +kernel
theorem dX0_waitFor_15 : decode cX0_waitFor 15 = .ok (.aload_n 1, 1) := by decide +kernel
theorem dX0_waitFor_16 : decode cX0_waitFor 16 = .ok (.aload_n 0, 1) := by decide +kernel
theorem dX0_waitFor_17 : decode cX0_waitFor 17 = .ok (.getfield 79, 3) := by decide +kernel
theorem dX0_waitFor_20 : decode cX0_waitFor 20 = .ok (.putfield 160, 3) := by decide +kernel
theorem dX0_waitFor_23 : decode cX0_waitFor 23 = .ok (.aload_n 0, 1) := by decide +kernel
theorem dX0_waitFor_24 : decode cX0_waitFor 24 = .ok (.dup, 1) := by decide +kernel
theorem dX0_waitFor_25 : decode cX0_waitFor 25 = .ok (.getfield 79, 3) := by decide +kernel
theorem dX0_waitFor_28 : decode cX0_waitFor 28 = .ok (.iconst 1, 1) := by decide +kernel
theorem dX0_waitFor_29 : decode cX0_waitFor 29 = .ok (.iadd, 1) := by decide +kernel
theorem dX0_waitFor_30 : decode cX0_waitFor 30 = .ok (.putfield 79, 3) := by decide +kernel
theorem dX0_waitFor_33 : decode cX0_waitFor 33 = .ok (.return_, 1) := by decide +kernel
theorem dX0_lockBy_0 : decode cX0_lockBy 0 = .ok (.iload_n 2, 1) := by decide +kernel
theorem dX0_lockBy_1 : decode cX0_lockBy 1 = .ok (.ifCond .lt 22, 3) := by decide +kernel
theorem dX0_lockBy_4 : decode cX0_lockBy 4 = .ok (.iload_n 2, 1) := by decide +kernel
theorem dX0_lockBy_5 : decode cX0_lockBy 5 = .ok (.bipush 6, 2) := by decide +kernel
theorem dX0_lockBy_7 : decode cX0_lockBy 7 = .ok (.if_icmp .ge 16, 3) := by decide +kernel
theorem dX0_lockBy_10 : decode cX0_lockBy 10 = .ok (.aload_n 0, 1) := by decide +kernel
theorem dX0_lockBy_11 : decode cX0_lockBy 11 = .ok (.getfield 35, 3) := by decide +kernel
theorem dX0_lockBy_14 : decode cX0_lockBy 14 = .ok (.iload_n 2, 1) := by decide +kernel
theorem dX0_lockBy_15 : decode cX0_lockBy 15 = .ok (.iaload, 1) := by decide +kernel
theorem dX0_lockBy_16 : decode cX0_lockBy 16 = .ok (.aload_n 1, 1) := by decide +kernel
theorem dX0_lockBy_17 : decode cX0_lockBy 17 = .ok (.getfield 85, 3) := by decide +kernel
theorem dX0_lockBy_20 : decode cX0_lockBy 20 = .ok (.if_icmp .ne 4, 3) := by decide +kernel
theorem dX0_lockBy_23 : decode cX0_lockBy 23 = .ok (.return_, 1) := by decide +kernel
theorem dX0_lockBy_24 : decode cX0_lockBy 24 = .ok (.aload_n 0, 1) := by decide +kernel
theorem dX0_lockBy_25 : decode cX0_lockBy 25 = .ok (.getfield 35, 3) := by decide +kernel
theorem dX0_lockBy_28 : decode cX0_lockBy 28 = .ok (.iload_n 2, 1) := by decide +kernel
theorem dX0_lockBy_29 : decode cX0_lockBy 29 = .ok (.iaload, 1) := by decide +kernel
theorem dX0_lockBy_30 : decode cX0_lockBy 30 = .ok (.iconst (-1), 1) := by decide +kernel
theorem dX0_lockBy_31 : decode cX0_lockBy 31 = .ok (.if_icmp .ne 16, 3) := by decide +kernel
theorem dX0_lockBy_34 : decode cX0_lockBy 34 = .ok (.aload_n 0, 1) := by decide +kernel
theorem dX0_lockBy_35 : decode cX0_lockBy 35 = .ok (.getfield 35, 3) := by decide +kernel
theorem dX0_lockBy_38 : decode cX0_lockBy 38 = .ok (.iload_n 2, 1) := by decide +kernel
theorem dX0_lockBy_39 : decode cX0_lockBy 39 = .ok (.aload_n 1, 1) := by decide +kernel
theorem dX0_lockBy_40 : decode cX0_lockBy 40 = .ok (.getfield 85, 3) := by decide +kernel
theorem dX0_lockBy_43 : decode cX0_lockBy 43 = .ok (.iastore, 1) := by decide +kernel
theorem dX0_lockBy_44 : decode cX0_lockBy 44 = .ok (.goto 10, 3) := by decide +kernel
theorem dX0_lockBy_47 : decode cX0_lockBy 47 = .ok (.aload_n 0, 1) := by decide +kernel
theorem dX0_lockBy_48 : decode cX0_lockBy 48 = .ok (.aload_n 1, 1) := by decide +kernel
theorem dX0_lockBy_49 : decode cX0_lockBy 49 = .ok (.iconst 4, 1) := by decide +kernel
theorem dX0_lockBy_50 : decode cX0_lockBy 50 = .ok (.iload_n 2, 1) := by decide +kernel
theorem dX0_lockBy_51 : decode cX0_lockBy 51 = .ok (.invokevirtual 262, 3) := by decide +kernel
theorem dX0_lockBy_54 : decode cX0_lockBy 54 = .ok (.return_, 1) := by decide +kernel
theorem dX0_awaitBy_0 : decode cX0_awaitBy 0 = .ok (.iload_n 2, 1) := by decide +kernel
theorem dX0_awaitBy_1 : decode cX0_awaitBy 1 = .ok (.ifCond .lt 9, 3) := by decide +kernel
theorem dX0_awaitBy_4 : decode cX0_awaitBy 4 = .ok (.iload_n 2, 1) := by decide +kernel
theorem dX0_awaitBy_5 : decode cX0_awaitBy 5 = .ok (.bipush 6, 2) := by decide +kernel
theorem dX0_awaitBy_7 : decode cX0_awaitBy 7 = .ok (.if_icmp .lt 4, 3) := by decide +kernel
theorem dX0_awaitBy_10 : decode cX0_awaitBy 10 = .ok (.return_, 1) := by decide +kernel
theorem dX0_awaitBy_11 : decode cX0_awaitBy 11 = .ok (.aload_n 0, 1) := by decide +kernel
theorem dX0_awaitBy_12 : decode cX0_awaitBy 12 = .ok (.getfield 38, 3) := by decide +kernel
theorem dX0_awaitBy_15 : decode cX0_awaitBy 15 = .ok (.iload_n 2, 1) := by decide +kernel
theorem dX0_awaitBy_16 : decode cX0_awaitBy 16 = .ok (.iaload, 1) := by decide +kernel
theorem dX0_awaitBy_17 : decode cX0_awaitBy 17 = .ok (.ifCond .le 16, 3) := by decide +kernel
theorem dX0_awaitBy_20 : decode cX0_awaitBy 20 = .ok (.aload_n 0, 1) := by decide +kernel
theorem dX0_awaitBy_21 : decode cX0_awaitBy 21 = .ok (.getfield 38, 3) := by decide +kernel
theorem dX0_awaitBy_24 : decode cX0_awaitBy 24 = .ok (.iload_n 2, 1) := by decide +kernel
theorem dX0_awaitBy_25 : decode cX0_awaitBy 25 = .ok (.dup2, 1) := by decide +kernel
theorem dX0_awaitBy_26 : decode cX0_awaitBy 26 = .ok (.iaload, 1) := by decide +kernel
theorem dX0_awaitBy_27 : decode cX0_awaitBy 27 = .ok (.iconst 1, 1) := by decide +kernel
theorem dX0_awaitBy_28 : decode cX0_awaitBy 28 = .ok (.isub, 1) := by decide +kernel
theorem dX0_awaitBy_29 : decode cX0_awaitBy 29 = .ok (.iastore, 1) := by decide +kernel
theorem dX0_awaitBy_30 : decode cX0_awaitBy 30 = .ok (.goto 10, 3) := by decide +kernel
theorem dX0_awaitBy_33 : decode cX0_awaitBy 33 = .ok (.aload_n 0, 1) := by decide +kernel
theorem dX0_awaitBy_34 : decode cX0_awaitBy 34 = .ok (.aload_n 1, 1) := by decide +kernel
theorem dX0_awaitBy_35 : decode cX0_awaitBy 35 = .ok (.iconst 5, 1) := by decide +kernel
theorem dX0_awaitBy_36 : decode cX0_awaitBy 36 = .ok (.iload_n 2, 1) := by decide +kernel
theorem dX0_awaitBy_37 : decode cX0_awaitBy 37 = .ok (.invokevirtual 262, 3) := by decide +kernel
theorem dX0_awaitBy_40 : decode cX0_awaitBy 40 = .ok (.return_, 1) := by decide +kernel
theorem dX0_runTick_0 : decode cX0_runTick 0 = .ok (.aload_n 1, 1) := by decide +kernel
theorem dX0_runTick_1 : decode cX0_runTick 1 = .ok (.getfield 234, 3) := by decide +kernel
theorem dX0_runTick_4 : decode cX0_runTick 4 = .ok (.ifCond .lt 24, 3) := by decide +kernel
theorem dX0_runTick_7 : decode cX0_runTick 7 = .ok (.aload_n 1, 1) := by decide +kernel
theorem dX0_runTick_8 : decode cX0_runTick 8 = .ok (.getfield 234, 3) := by decide +kernel
theorem dX0_runTick_11 : decode cX0_runTick 11 = .ok (.iconst 4, 1) := by decide +kernel
theorem dX0_runTick_12 : decode cX0_runTick 12 = .ok (.if_icmp .ge 16, 3) := by decide +kernel
theorem dX0_runTick_15 : decode cX0_runTick 15 = .ok (.aload_n 0, 1) := by decide +kernel
theorem dX0_runTick_16 : decode cX0_runTick 16 = .ok (.getfield 31, 3) := by decide +kernel
theorem dX0_runTick_19 : decode cX0_runTick 19 = .ok (.aload_n 1, 1) := by decide +kernel
theorem dX0_runTick_20 : decode cX0_runTick 20 = .ok (.getfield 234, 3) := by decide +kernel
theorem dX0_runTick_23 : decode cX0_runTick 23 = .ok (.dup2, 1) := by decide +kernel
theorem dX0_runTick_24 : decode cX0_runTick 24 = .ok (.iaload, 1) := by decide +kernel
theorem dX0_runTick_25 : decode cX0_runTick 25 = .ok (.iconst 1, 1) := by decide +kernel
theorem dX0_runTick_26 : decode cX0_runTick 26 = .ok (.iadd, 1) := by decide +kernel
theorem dX0_runTick_27 : decode cX0_runTick 27 = .ok (.iastore, 1) := by decide +kernel
theorem dX0_runTick_28 : decode cX0_runTick 28 = .ok (.aload_n 1, 1) := by decide +kernel
theorem dX0_runTick_29 : decode cX0_runTick 29 = .ok (.getfield 135, 3) := by decide +kernel
theorem dX0_runTick_32 : decode cX0_runTick 32 = .ok (.aload_n 0, 1) := by decide +kernel
theorem dX0_runTick_33 : decode cX0_runTick 33 = .ok (.getfield 69, 3) := by decide +kernel
theorem dX0_runTick_36 : decode cX0_runTick 36 = .ok (.invokevirtual 275, 3) := by decide +kernel
theorem dX0_runTick_39 : decode cX0_runTick 39 = .ok (.aload_n 1, 1) := by decide +kernel
theorem dX0_runTick_40 : decode cX0_runTick 40 = .ok (.dup, 1) := by decide +kernel
theorem dX0_runTick_41 : decode cX0_runTick 41 = .ok (.getfield 211, 3) := by decide +kernel
theorem dX0_runTick_44 : decode cX0_runTick 44 = .ok (.iconst 1, 1) := by decide +kernel
theorem dX0_runTick_45 : decode cX0_runTick 45 = .ok (.iadd, 1) := by decide +kernel
theorem dX0_runTick_46 : decode cX0_runTick 46 = .ok (.putfield 211, 3) := by decide +kernel
theorem dX0_runTick_49 : decode cX0_runTick 49 = .ok (.aload_n 0, 1) := by decide +kernel
theorem dX0_runTick_50 : decode cX0_runTick 50 = .ok (.getfield 12, 3) := by decide +kernel
theorem dX0_runTick_53 : decode cX0_runTick 53 = .ok (.getfield 107, 3) := by decide +kernel
theorem dX0_runTick_56 : decode cX0_runTick 56 = .ok (.iconst 2, 1) := by decide +kernel
theorem dX0_runTick_57 : decode cX0_runTick 57 = .ok (.if_icmp .ne 7, 3) := by decide +kernel
theorem dX0_runTick_60 : decode cX0_runTick 60 = .ok (.aload_n 1, 1) := by decide +kernel
theorem dX0_runTick_61 : decode cX0_runTick 61 = .ok (.invokevirtual 278, 3) := by decide +kernel
theorem dX0_runTick_64 : decode cX0_runTick 64 = .ok (.aload_n 1, 1) := by decide +kernel
theorem dX0_runTick_65 : decode cX0_runTick 65 = .ok (.invokevirtual 281, 3) := by decide +kernel
theorem dX0_runTick_68 : decode cX0_runTick 68 = .ok (.return_, 1) := by decide +kernel
theorem dX0_countWaits_0 : decode cX0_countWaits 0 = .ok (.aload_n 0, 1) := by decide +kernel
theorem dX0_countWaits_1 : decode cX0_countWaits 1 = .ok (.getfield 27, 3) := by decide +kernel
theorem dX0_countWaits_4 : decode cX0_countWaits 4 = .ok (.astore_n 1, 1) := by decide +kernel
theorem dX0_countWaits_5 : decode cX0_countWaits 5 = .ok (.aload_n 1, 1) := by decide +kernel
theorem dX0_countWaits_6 : decode cX0_countWaits 6 = .ok (.arraylength, 1) := by decide +kernel
theorem dX0_countWaits_7 : decode cX0_countWaits 7 = .ok (.istore_n 2, 1) := by decide +kernel
theorem dX0_countWaits_8 : decode cX0_countWaits 8 = .ok (.iconst 0, 1) := by decide +kernel
theorem dX0_countWaits_9 : decode cX0_countWaits 9 = .ok (.istore_n 3, 1) := by decide +kernel
theorem dX0_countWaits_10 : decode cX0_countWaits 10 = .ok (.iload_n 3, 1) := by decide +kernel
theorem dX0_countWaits_11 : decode cX0_countWaits 11 = .ok (.iload_n 2, 1) := by decide +kernel
theorem dX0_countWaits_12 : decode cX0_countWaits 12 = .ok (.if_icmp .ge 60, 3) := by decide +kernel
theorem dX0_countWaits_15 : decode cX0_countWaits 15 = .ok (.aload_n 1, 1) := by decide +kernel
theorem dX0_countWaits_16 : decode cX0_countWaits 16 = .ok (.iload_n 3, 1) := by decide +kernel
theorem dX0_countWaits_17 : decode cX0_countWaits 17 = .ok (.aaload, 1) := by decide +kernel
theorem dX0_countWaits_18 : decode cX0_countWaits 18 = .ok (.astore 4, 2) := by decide +kernel
theorem dX0_countWaits_20 : decode cX0_countWaits 20 = .ok (.aload 4, 2) := by decide +kernel
theorem dX0_countWaits_22 : decode cX0_countWaits 22 = .ok (.getfield 82, 3) := by decide +kernel
theorem dX0_countWaits_25 : decode cX0_countWaits 25 = .ok (.iconst 1, 1) := by decide +kernel
theorem dX0_countWaits_26 : decode cX0_countWaits 26 = .ok (.if_icmp .ne 17, 3) := by decide +kernel
theorem dX0_countWaits_29 : decode cX0_countWaits 29 = .ok (.aload 4, 2) := by decide +kernel
theorem dX0_countWaits_31 : decode cX0_countWaits 31 = .ok (.getfield 135, 3) := by decide +kernel
theorem dX0_countWaits_34 : decode cX0_countWaits 34 = .ok (.dup, 1) := by decide +kernel
theorem dX0_countWaits_35 : decode cX0_countWaits 35 = .ok (.getfield 284, 3) := by decide +kernel
theorem dX0_countWaits_38 : decode cX0_countWaits 38 = .ok (.iconst 1, 1) := by decide +kernel
theorem dX0_countWaits_39 : decode cX0_countWaits 39 = .ok (.iadd, 1) := by decide +kernel
theorem dX0_countWaits_40 : decode cX0_countWaits 40 = .ok (.putfield 284, 3) := by decide +kernel
theorem dX0_countWaits_43 : decode cX0_countWaits 43 = .ok (.aload 4, 2) := by decide +kernel
theorem dX0_countWaits_45 : decode cX0_countWaits 45 = .ok (.getfield 82, 3) := by decide +kernel
theorem dX0_countWaits_48 : decode cX0_countWaits 48 = .ok (.iconst 4, 1) := by decide +kernel
theorem dX0_countWaits_49 : decode cX0_countWaits 49 = .ok (.if_icmp .ne 17, 3) := by decide +kernel
theorem dX0_countWaits_52 : decode cX0_countWaits 52 = .ok (.aload 4, 2) := by decide +kernel
theorem dX0_countWaits_54 : decode cX0_countWaits 54 = .ok (.getfield 135, 3) := by decide +kernel
theorem dX0_countWaits_57 : decode cX0_countWaits 57 = .ok (.dup, 1) := by decide +kernel
theorem dX0_countWaits_58 : decode cX0_countWaits 58 = .ok (.getfield 287, 3) := by decide +kernel
theorem dX0_countWaits_61 : decode cX0_countWaits 61 = .ok (.iconst 1, 1) := by decide +kernel
theorem dX0_countWaits_62 : decode cX0_countWaits 62 = .ok (.iadd, 1) := by decide +kernel
theorem dX0_countWaits_63 : decode cX0_countWaits 63 = .ok (.putfield 287, 3) := by decide +kernel
theorem dX0_countWaits_66 : decode cX0_countWaits 66 = .ok (.iinc 3 1, 3) := by decide +kernel
theorem dX0_countWaits_69 : decode cX0_countWaits 69 = .ok (.goto (-59), 3) := by decide +kernel
theorem dX0_countWaits_72 : decode cX0_countWaits 72 = .ok (.return_, 1) := by decide +kernel
theorem dX1_init_0 : decode cX1_init 0 = .ok (.aload_n 0, 1) := by decide +kernel
theorem dX1_init_1 : decode cX1_init 1 = .ok (.invokespecial 3, 3) := by decide +kernel
theorem dX1_init_4 : decode cX1_init 4 = .ok (.aload_n 0, 1) := by decide +kernel
theorem dX1_init_5 : decode cX1_init 5 = .ok (.iconst 1, 1) := by decide +kernel
theorem dX1_init_6 : decode cX1_init 6 = .ok (.putfield 9, 3) := by decide +kernel
theorem dX1_init_9 : decode cX1_init 9 = .ok (.aload_n 0, 1) := by decide +kernel
theorem dX1_init_10 : decode cX1_init 10 = .ok (.bipush 16, 2) := by decide +kernel
theorem dX1_init_12 : decode cX1_init 12 = .ok (.newarray .int, 2) := by decide +kernel
theorem dX1_init_14 : decode cX1_init 14 = .ok (.putfield 15, 3) := by decide +kernel
theorem dX1_init_17 : decode cX1_init 17 = .ok (.aload_n 0, 1) := by decide +kernel
theorem dX1_init_18 : decode cX1_init 18 = .ok (.bipush 16, 2) := by decide +kernel
theorem dX1_init_20 : decode cX1_init 20 = .ok (.newarray .int, 2) := by decide +kernel
theorem dX1_init_22 : decode cX1_init 22 = .ok (.putfield 19, 3) := by decide +kernel
theorem dX1_init_25 : decode cX1_init 25 = .ok (.return_, 1) := by decide +kernel
theorem dX1_copyFrom_0 : decode cX1_copyFrom 0 = .ok (.aload_n 0, 1) := by decide +kernel
theorem dX1_copyFrom_1 : decode cX1_copyFrom 1 = .ok (.aload_n 1, 1) := by decide +kernel
theorem dX1_copyFrom_2 : decode cX1_copyFrom 2 = .ok (.getfield 9, 3) := by decide +kernel
theorem dX1_copyFrom_5 : decode cX1_copyFrom 5 = .ok (.putfield 9, 3) := by decide +kernel
theorem dX1_copyFrom_8 : decode cX1_copyFrom 8 = .ok (.aload_n 0, 1) := by decide +kernel
theorem dX1_copyFrom_9 : decode cX1_copyFrom 9 = .ok (.aload_n 1, 1) := by decide +kernel
theorem dX1_copyFrom_10 : decode cX1_copyFrom 10 = .ok (.getfield 22, 3) := by decide +kernel
theorem dX1_copyFrom_13 : decode cX1_copyFrom 13 = .ok (.putfield 22, 3) := by decide +kernel
theorem dX1_copyFrom_16 : decode cX1_copyFrom 16 = .ok (.aload_n 1, 1) := by decide +kernel
theorem dX1_copyFrom_17 : decode cX1_copyFrom 17 = .ok (.getfield 15, 3) := by decide +kernel
theorem dX1_copyFrom_20 : decode cX1_copyFrom 20 = .ok (.iconst 0, 1) := by decide +kernel
theorem dX1_copyFrom_21 : decode cX1_copyFrom 21 = .ok (.aload_n 0, 1) := by decide +kernel
theorem dX1_copyFrom_22 : decode cX1_copyFrom 22 = .ok (.getfield 15, 3) := by decide +kernel
theorem dX1_copyFrom_25 : decode cX1_copyFrom 25 = .ok (.iconst 0, 1) := by decide +kernel
theorem dX1_copyFrom_26 : decode cX1_copyFrom 26 = .ok (.bipush 16, 2) := by decide +kernel
theorem dX1_copyFrom_28 : decode cX1_copyFrom 28 = .ok (.invokestatic 25, 3) := by decide +kernel
theorem dX1_copyFrom_31 : decode cX1_copyFrom 31 = .ok (.aload_n 1, 1) := by decide +kernel
theorem dX1_copyFrom_32 : decode cX1_copyFrom 32 = .ok (.getfield 19, 3) := by decide +kernel
theorem dX1_copyFrom_35 : decode cX1_copyFrom 35 = .ok (.iconst 0, 1) := by decide +kernel
theorem dX1_copyFrom_36 : decode cX1_copyFrom 36 = .ok (.aload_n 0, 1) := by decide +kernel
theorem dX1_copyFrom_37 : decode cX1_copyFrom 37 = .ok (.getfield 19, 3) := by decide +kernel
theorem dX1_copyFrom_40 : decode cX1_copyFrom 40 = .ok (.iconst 0, 1) := by decide +kernel
theorem dX1_copyFrom_41 : decode cX1_copyFrom 41 = .ok (.bipush 16, 2) := by decide +kernel
theorem dX1_copyFrom_43 : decode cX1_copyFrom 43 = .ok (.invokestatic 25, 3) := by decide +kernel
theorem dX1_copyFrom_46 : decode cX1_copyFrom 46 = .ok (.return_, 1) := by decide +kernel
theorem dX1_append_0 : decode cX1_append 0 = .ok (.aload_n 0, 1) := by decide +kernel
theorem dX1_append_1 : decode cX1_append 1 = .ok (.getfield 22, 3) := by decide +kernel
theorem dX1_append_4 : decode cX1_append 4 = .ok (.ifCond .lt 42, 3) := by decide +kernel
theorem dX1_append_7 : decode cX1_append 7 = .ok (.aload_n 0, 1) := by decide +kernel
theorem dX1_append_8 : decode cX1_append 8 = .ok (.getfield 22, 3) := by decide +kernel
theorem dX1_append_11 : decode cX1_append 11 = .ok (.bipush 16, 2) := by decide +kernel
theorem dX1_append_13 : decode cX1_append 13 = .ok (.if_icmp .ge 33, 3) := by decide +kernel
theorem dX1_append_16 : decode cX1_append 16 = .ok (.aload_n 0, 1) := by decide +kernel
theorem dX1_append_17 : decode cX1_append 17 = .ok (.getfield 15, 3) := by decide +kernel
theorem dX1_append_20 : decode cX1_append 20 = .ok (.aload_n 0, 1) := by decide +kernel
theorem dX1_append_21 : decode cX1_append 21 = .ok (.getfield 22, 3) := by decide +kernel
theorem dX1_append_24 : decode cX1_append 24 = .ok (.iload_n 1, 1) := by decide +kernel
theorem dX1_append_25 : decode cX1_append 25 = .ok (.iastore, 1) := by decide +kernel
theorem dX1_append_26 : decode cX1_append 26 = .ok (.aload_n 0, 1) := by decide +kernel
theorem dX1_append_27 : decode cX1_append 27 = .ok (.getfield 19, 3) := by decide +kernel
theorem dX1_append_30 : decode cX1_append 30 = .ok (.aload_n 0, 1) := by decide +kernel
theorem dX1_append_31 : decode cX1_append 31 = .ok (.getfield 22, 3) := by decide +kernel
theorem dX1_append_34 : decode cX1_append 34 = .ok (.iload_n 2, 1) := by decide +kernel
theorem dX1_append_35 : decode cX1_append 35 = .ok (.iastore, 1) := by decide +kernel
theorem dX1_append_36 : decode cX1_append 36 = .ok (.aload_n 0, 1) := by decide +kernel
theorem dX1_append_37 : decode cX1_append 37 = .ok (.dup, 1) := by decide +kernel
theorem dX1_append_38 : decode cX1_append 38 = .ok (.getfield 22, 3) := by decide +kernel
theorem dX1_append_41 : decode cX1_append 41 = .ok (.iconst 1, 1) := by decide +kernel
theorem dX1_append_42 : decode cX1_append 42 = .ok (.iadd, 1) := by decide +kernel
theorem dX1_append_43 : decode cX1_append 43 = .ok (.putfield 22, 3) := by decide +kernel
theorem dX1_append_46 : decode cX1_append 46 = .ok (.return_, 1) := by decide +kernel
theorem dX1_codeAt_0 : decode cX1_codeAt 0 = .ok (.iload_n 1, 1) := by decide +kernel
theorem dX1_codeAt_1 : decode cX1_codeAt 1 = .ok (.ifCond .lt 18, 3) := by decide +kernel
theorem dX1_codeAt_4 : decode cX1_codeAt 4 = .ok (.iload_n 1, 1) := by decide +kernel
theorem dX1_codeAt_5 : decode cX1_codeAt 5 = .ok (.bipush 16, 2) := by decide +kernel
theorem dX1_codeAt_7 : decode cX1_codeAt 7 = .ok (.if_icmp .ge 12, 3) := by decide +kernel
theorem dX1_codeAt_10 : decode cX1_codeAt 10 = .ok (.aload_n 0, 1) := by decide +kernel
theorem dX1_codeAt_11 : decode cX1_codeAt 11 = .ok (.getfield 15, 3) := by decide +kernel
theorem dX1_codeAt_14 : decode cX1_codeAt 14 = .ok (.iload_n 1, 1) := by decide +kernel
theorem dX1_codeAt_15 : decode cX1_codeAt 15 = .ok (.iaload, 1) := by decide +kernel
theorem dX1_codeAt_16 : decode cX1_codeAt 16 = .ok (.goto 4, 3) := by decide +kernel
theorem dX1_codeAt_19 : decode cX1_codeAt 19 = .ok (.iconst 0, 1) := by decide +kernel
theorem dX1_codeAt_20 : decode cX1_codeAt 20 = .ok (.ireturn, 1) := by decide +kernel
theorem dX1_numberAt_0 : decode cX1_numberAt 0 = .ok (.iload_n 1, 1) := by decide +kernel
theorem dX1_numberAt_1 : decode cX1_numberAt 1 = .ok (.ifCond .lt 18, 3) := by decide +kernel
theorem dX1_numberAt_4 : decode cX1_numberAt 4 = .ok (.iload_n 1, 1) := by decide +kernel
theorem dX1_numberAt_5 : decode cX1_numberAt 5 = .ok (.bipush 16, 2) := by decide +kernel
theorem dX1_numberAt_7 : decode cX1_numberAt 7 = .ok (.if_icmp .ge 12, 3) := by decide +kernel
theorem dX1_numberAt_10 : decode cX1_numberAt 10 = .ok (.aload_n 0, 1) := by decide +kernel
theorem dX1_numberAt_11 : decode cX1_numberAt 11 = .ok (.getfield 19, 3) := by decide +kernel
theorem dX1_numberAt_14 : decode cX1_numberAt 14 = .ok (.iload_n 1, 1) := by decide +kernel
theorem dX1_numberAt_15 : decode cX1_numberAt 15 = .ok (.iaload, 1) := by decide +kernel
theorem dX1_numberAt_16 : decode cX1_numberAt 16 = .ok (.goto 4, 3) := by decide +kernel
theorem dX1_numberAt_19 : decode cX1_numberAt 19 = .ok (.iconst 0, 1) := by decide +kernel
theorem dX1_numberAt_20 : decode cX1_numberAt 20 = .ok (.ireturn, 1) := by decide +kernel
theorem dX1_endsWithRun_0 : decode cX1_endsWithRun 0 = .ok (.aload_n 0, 1) := by decide +kernel
theorem dX1_endsWithRun_1 : decode cX1_endsWithRun 1 = .ok (.getfield 22, 3) := by decide +kernel
theorem dX1_endsWithRun_4 : decode cX1_endsWithRun 4 = .ok (.ifCond .le 20, 3) := by decide +kernel
theorem dX1_endsWithRun_7 : decode cX1_endsWithRun 7 = .ok (.aload_n 0, 1) := by decide +kernel
theorem dX1_endsWithRun_8 : decode cX1_endsWithRun 8 = .ok (.aload_n 0, 1) := by decide +kernel
theorem dX1_endsWithRun_9 : decode cX1_endsWithRun 9 = .ok (.getfield 22, 3) := by decide +kernel
theorem dX1_endsWithRun_12 : decode cX1_endsWithRun 12 = .ok (.iconst 1, 1) := by decide +kernel
theorem dX1_endsWithRun_13 : decode cX1_endsWithRun 13 = .ok (.isub, 1) := by decide +kernel
theorem dX1_endsWithRun_14 : decode cX1_endsWithRun 14 = .ok (.invokevirtual 31, 3) := by decide +kernel
theorem dX1_endsWithRun_17 : decode cX1_endsWithRun 17 = .ok (.ifCond .ne 7, 3) := by decide +kernel
theorem dX1_endsWithRun_20 : decode cX1_endsWithRun 20 = .ok (.iconst 1, 1) := by decide +kernel
theorem dX1_endsWithRun_21 : decode cX1_endsWithRun 21 = .ok (.goto 4, 3) := by decide +kernel
theorem dX1_endsWithRun_24 : decode cX1_endsWithRun 24 = .ok (.iconst 0, 1) := by decide +kernel
theorem dX1_endsWithRun_25 : decode cX1_endsWithRun 25 = .ok (.ireturn, 1) := by decide +kernel
theorem dX2_init_0 : decode cX2_init 0 = .ok (.aload_n 0, 1) := by decide +kernel
theorem dX2_init_1 : decode cX2_init 1 = .ok (.invokespecial 3, 3) := by decide +kernel
theorem dX2_init_4 : decode cX2_init 4 = .ok (.aload_n 0, 1) := by decide +kernel
theorem dX2_init_5 : decode cX2_init 5 = .ok (.iconst 1, 1) := by decide +kernel
theorem dX2_init_6 : decode cX2_init 6 = .ok (.putfield 9, 3) := by decide +kernel
theorem dX2_init_9 : decode cX2_init 9 = .ok (.aload_n 0, 1) := by decide +kernel
theorem dX2_init_10 : decode cX2_init 10 = .ok (.iconst 0, 1) := by decide +kernel
theorem dX2_init_11 : decode cX2_init 11 = .ok (.putfield 15, 3) := by decide +kernel
theorem dX2_init_14 : decode cX2_init 14 = .ok (.aload_n 0, 1) := by decide +kernel
theorem dX2_init_15 : decode cX2_init 15 = .ok (.iconst 3, 1) := by decide +kernel
theorem dX2_init_16 : decode cX2_init 16 = .ok (.putfield 18, 3) := by decide +kernel
theorem dX2_init_19 : decode cX2_init 19 = .ok (.aload_n 0, 1) := by decide +kernel
theorem dX2_init_20 : decode cX2_init 20 = .ok (.iconst 0, 1) := by decide +kernel
theorem dX2_init_21 : decode cX2_init 21 = .ok (.putfield 21, 3) := by decide +kernel
theorem dX2_init_24 : decode cX2_init 24 = .ok (.aload_n 0, 1) := by decide +kernel
theorem dX2_init_25 : decode cX2_init 25 = .ok (.bipush 10, 2) := by decide +kernel
theorem dX2_init_27 : decode cX2_init 27 = .ok (.putfield 24, 3) := by decide +kernel
theorem dX2_init_30 : decode cX2_init 30 = .ok (.aload_n 0, 1) := by decide +kernel
theorem dX2_init_31 : decode cX2_init 31 = .ok (.iconst 4, 1) := by decide +kernel
theorem dX2_init_32 : decode cX2_init 32 = .ok (.newarray .int, 2) := by decide +kernel
theorem dX2_init_34 : decode cX2_init 34 = .ok (.putfield 27, 3) := by decide +kernel
theorem dX2_init_37 : decode cX2_init 37 = .ok (.return_, 1) := by decide +kernel
theorem dX2_copyFrom_0 : decode cX2_copyFrom 0 = .ok (.aload_n 0, 1) := by decide +kernel
theorem dX2_copyFrom_1 : decode cX2_copyFrom 1 = .ok (.aload_n 1, 1) := by decide +kernel
theorem dX2_copyFrom_2 : decode cX2_copyFrom 2 = .ok (.getfield 9, 3) := by decide +kernel
theorem dX2_copyFrom_5 : decode cX2_copyFrom 5 = .ok (.putfield 9, 3) := by decide +kernel
theorem dX2_copyFrom_8 : decode cX2_copyFrom 8 = .ok (.aload_n 0, 1) := by decide +kernel
theorem dX2_copyFrom_9 : decode cX2_copyFrom 9 = .ok (.aload_n 1, 1) := by decide +kernel
theorem dX2_copyFrom_10 : decode cX2_copyFrom 10 = .ok (.getfield 15, 3) := by decide +kernel
theorem dX2_copyFrom_13 : decode cX2_copyFrom 13 = .ok (.putfield 15, 3) := by decide +kernel
theorem dX2_copyFrom_16 : decode cX2_copyFrom 16 = .ok (.aload_n 0, 1) := by decide +kernel
theorem dX2_copyFrom_17 : decode cX2_copyFrom 17 = .ok (.aload_n 1, 1) := by decide +kernel
theorem dX2_copyFrom_18 : decode cX2_copyFrom 18 = .ok (.getfield 18, 3) := by decide +kernel
theorem dX2_copyFrom_21 : decode cX2_copyFrom 21 = .ok (.putfield 18, 3) := by decide +kernel
theorem dX2_copyFrom_24 : decode cX2_copyFrom 24 = .ok (.aload_n 0, 1) := by decide +kernel
theorem dX2_copyFrom_25 : decode cX2_copyFrom 25 = .ok (.aload_n 1, 1) := by decide +kernel
theorem dX2_copyFrom_26 : decode cX2_copyFrom 26 = .ok (.getfield 21, 3) := by decide +kernel
theorem dX2_copyFrom_29 : decode cX2_copyFrom 29 = .ok (.putfield 21, 3) := by decide +kernel
theorem dX2_copyFrom_32 : decode cX2_copyFrom 32 = .ok (.aload_n 0, 1) := by decide +kernel
theorem dX2_copyFrom_33 : decode cX2_copyFrom 33 = .ok (.aload_n 1, 1) := by decide +kernel
theorem dX2_copyFrom_34 : decode cX2_copyFrom 34 = .ok (.getfield 24, 3) := by decide +kernel
theorem dX2_copyFrom_37 : decode cX2_copyFrom 37 = .ok (.putfield 24, 3) := by decide +kernel
theorem dX2_copyFrom_40 : decode cX2_copyFrom 40 = .ok (.aload_n 1, 1) := by decide +kernel
theorem dX2_copyFrom_41 : decode cX2_copyFrom 41 = .ok (.getfield 27, 3) := by decide +kernel
theorem dX2_copyFrom_44 : decode cX2_copyFrom 44 = .ok (.iconst 0, 1) := by decide +kernel
theorem dX2_copyFrom_45 : decode cX2_copyFrom 45 = .ok (.aload_n 0, 1) := by decide +kernel
theorem dX2_copyFrom_46 : decode cX2_copyFrom 46 = .ok (.getfield 27, 3) := by decide +kernel
theorem dX2_copyFrom_49 : decode cX2_copyFrom 49 = .ok (.iconst 0, 1) := by decide +kernel
theorem dX2_copyFrom_50 : decode cX2_copyFrom 50 = .ok (.iconst 4, 1) := by decide +kernel
theorem dX2_copyFrom_51 : decode cX2_copyFrom 51 = .ok (.invokestatic 31, 3) := by decide +kernel
theorem dX2_copyFrom_54 : decode cX2_copyFrom 54 = .ok (.return_, 1) := by decide +kernel
theorem dX2_begins_0 : decode cX2_begins 0 = .ok (.iload_n 2, 1) := by decide +kernel
theorem dX2_begins_1 : decode cX2_begins 1 = .ok (.ifCond .le 13, 3) := by decide +kernel
theorem dX2_begins_4 : decode cX2_begins 4 = .ok (.iload_n 1, 1) := by decide +kernel
theorem dX2_begins_5 : decode cX2_begins 5 = .ok (.iload_n 2, 1) := by decide +kernel
theorem dX2_begins_6 : decode cX2_begins 6 = .ok (.irem, 1) := by decide +kernel
theorem dX2_begins_7 : decode cX2_begins 7 = .ok (.ifCond .ne 7, 3) := by decide +kernel
theorem dX2_begins_10 : decode cX2_begins 10 = .ok (.iconst 1, 1) := by decide +kernel
theorem dX2_begins_11 : decode cX2_begins 11 = .ok (.goto 4, 3) := by decide +kernel
theorem dX2_begins_14 : decode cX2_begins 14 = .ok (.iconst 0, 1) := by decide +kernel
theorem dX2_begins_15 : decode cX2_begins 15 = .ok (.ireturn, 1) := by decide +kernel
theorem dX2_endsTurn_0 : decode cX2_endsTurn 0 = .ok (.aload_n 0, 1) := by decide +kernel
theorem dX2_endsTurn_1 : decode cX2_endsTurn 1 = .ok (.getfield 15, 3) := by decide +kernel
theorem dX2_endsTurn_4 : decode cX2_endsTurn 4 = .ok (.lookupswitch 58 #[(0, 28), (1, 42)], 28) := by decide +kernel
theorem dX2_endsTurn_32 : decode cX2_endsTurn 32 = .ok (.iload_n 2, 1) := by decide +kernel
theorem dX2_endsTurn_33 : decode cX2_endsTurn 33 = .ok (.aload_n 0, 1) := by decide +kernel
theorem dX2_endsTurn_34 : decode cX2_endsTurn 34 = .ok (.getfield 18, 3) := by decide +kernel
theorem dX2_endsTurn_37 : decode cX2_endsTurn 37 = .ok (.if_icmp .lt 7, 3) := by decide +kernel
theorem dX2_endsTurn_40 : decode cX2_endsTurn 40 = .ok (.iconst 1, 1) := by decide +kernel
theorem dX2_endsTurn_41 : decode cX2_endsTurn 41 = .ok (.goto 4, 3) := by decide +kernel
theorem dX2_endsTurn_44 : decode cX2_endsTurn 44 = .ok (.iconst 0, 1) := by decide +kernel
theorem dX2_endsTurn_45 : decode cX2_endsTurn 45 = .ok (.ireturn, 1) := by decide +kernel
theorem dX2_endsTurn_46 : decode cX2_endsTurn 46 = .ok (.iload_n 2, 1) := by decide +kernel
theorem dX2_endsTurn_47 : decode cX2_endsTurn 47 = .ok (.aload_n 0, 1) := by decide +kernel
theorem dX2_endsTurn_48 : decode cX2_endsTurn 48 = .ok (.getfield 18, 3) := by decide +kernel
theorem dX2_endsTurn_51 : decode cX2_endsTurn 51 = .ok (.iload_n 1, 1) := by decide +kernel
theorem dX2_endsTurn_52 : decode cX2_endsTurn 52 = .ok (.ishl, 1) := by decide +kernel
theorem dX2_endsTurn_53 : decode cX2_endsTurn 53 = .ok (.if_icmp .lt 7, 3) := by decide +kernel
theorem dX2_endsTurn_56 : decode cX2_endsTurn 56 = .ok (.iconst 1, 1) := by decide +kernel
theorem dX2_endsTurn_57 : decode cX2_endsTurn 57 = .ok (.goto 4, 3) := by decide +kernel
theorem dX2_endsTurn_60 : decode cX2_endsTurn 60 = .ok (.iconst 0, 1) := by decide +kernel
theorem dX2_endsTurn_61 : decode cX2_endsTurn 61 = .ok (.ireturn, 1) := by decide +kernel
theorem dX2_endsTurn_62 : decode cX2_endsTurn 62 = .ok (.iconst 0, 1) := by decide +kernel
theorem dX2_endsTurn_63 : decode cX2_endsTurn 63 = .ok (.ireturn, 1) := by decide +kernel
theorem dX3_init_0 : decode cX3_init 0 = .ok (.aload_n 0, 1) := by decide +kernel
theorem dX3_init_1 : decode cX3_init 1 = .ok (.invokespecial 3, 3) := by decide +kernel
theorem dX3_init_4 : decode cX3_init 4 = .ok (.aload_n 0, 1) := by decide +kernel
theorem dX3_init_5 : decode cX3_init 5 = .ok (.iconst (-1), 1) := by decide +kernel
theorem dX3_init_6 : decode cX3_init 6 = .ok (.putfield 9, 3) := by decide +kernel
theorem dX3_init_9 : decode cX3_init 9 = .ok (.aload_n 0, 1) := by decide +kernel
theorem dX3_init_10 : decode cX3_init 10 = .ok (.iconst (-1), 1) := by decide +kernel
theorem dX3_init_11 : decode cX3_init 11 = .ok (.putfield 15, 3) := by decide +kernel
theorem dX3_init_14 : decode cX3_init 14 = .ok (.return_, 1) := by decide +kernel
theorem dX3_copyFrom_0 : decode cX3_copyFrom 0 = .ok (.aload_n 0, 1) := by decide +kernel
theorem dX3_copyFrom_1 : decode cX3_copyFrom 1 = .ok (.aload_n 1, 1) := by decide +kernel
theorem dX3_copyFrom_2 : decode cX3_copyFrom 2 = .ok (.getfield 18, 3) := by decide +kernel
theorem dX3_copyFrom_5 : decode cX3_copyFrom 5 = .ok (.putfield 18, 3) := by decide +kernel
theorem dX3_copyFrom_8 : decode cX3_copyFrom 8 = .ok (.aload_n 0, 1) := by decide +kernel
theorem dX3_copyFrom_9 : decode cX3_copyFrom 9 = .ok (.aload_n 1, 1) := by decide +kernel
theorem dX3_copyFrom_10 : decode cX3_copyFrom 10 = .ok (.getfield 21, 3) := by decide +kernel
theorem dX3_copyFrom_13 : decode cX3_copyFrom 13 = .ok (.putfield 21, 3) := by decide +kernel
theorem dX3_copyFrom_16 : decode cX3_copyFrom 16 = .ok (.aload_n 0, 1) := by decide +kernel
theorem dX3_copyFrom_17 : decode cX3_copyFrom 17 = .ok (.aload_n 1, 1) := by decide +kernel
theorem dX3_copyFrom_18 : decode cX3_copyFrom 18 = .ok (.getfield 24, 3) := by decide +kernel
theorem dX3_copyFrom_21 : decode cX3_copyFrom 21 = .ok (.putfield 24, 3) := by decide +kernel
theorem dX3_copyFrom_24 : decode cX3_copyFrom 24 = .ok (.aload_n 0, 1) := by decide +kernel
theorem dX3_copyFrom_25 : decode cX3_copyFrom 25 = .ok (.aload_n 1, 1) := by decide +kernel
theorem dX3_copyFrom_26 : decode cX3_copyFrom 26 = .ok (.getfield 9, 3) := by decide +kernel
theorem dX3_copyFrom_29 : decode cX3_copyFrom 29 = .ok (.putfield 9, 3) := by decide +kernel
theorem dX3_copyFrom_32 : decode cX3_copyFrom 32 = .ok (.aload_n 0, 1) := by decide +kernel
theorem dX3_copyFrom_33 : decode cX3_copyFrom 33 = .ok (.aload_n 1, 1) := by decide +kernel
theorem dX3_copyFrom_34 : decode cX3_copyFrom 34 = .ok (.getfield 15, 3) := by decide +kernel
theorem dX3_copyFrom_37 : decode cX3_copyFrom 37 = .ok (.putfield 15, 3) := by decide +kernel
theorem dX3_copyFrom_40 : decode cX3_copyFrom 40 = .ok (.return_, 1) := by decide +kernel
theorem dX3_countRun_0 : decode cX3_countRun 0 = .ok (.aload_n 0, 1) := by decide +kernel
theorem dX3_countRun_1 : decode cX3_countRun 1 = .ok (.getfield 18, 3) := by decide +kernel
theorem dX3_countRun_4 : decode cX3_countRun 4 = .ok (.ifCond .ne 8, 3) := by decide +kernel
theorem dX3_countRun_7 : decode cX3_countRun 7 = .ok (.aload_n 0, 1) := by decide +kernel
theorem dX3_countRun_8 : decode cX3_countRun 8 = .ok (.iload_n 1, 1) := by decide +kernel
theorem dX3_countRun_9 : decode cX3_countRun 9 = .ok (.putfield 9, 3) := by decide +kernel
theorem dX3_countRun_12 : decode cX3_countRun 12 = .ok (.aload_n 0, 1) := by decide +kernel
theorem dX3_countRun_13 : decode cX3_countRun 13 = .ok (.dup, 1) := by decide +kernel
theorem dX3_countRun_14 : decode cX3_countRun 14 = .ok (.getfield 18, 3) := by decide +kernel
theorem dX3_countRun_17 : decode cX3_countRun 17 = .ok (.iconst 1, 1) := by decide +kernel
theorem dX3_countRun_18 : decode cX3_countRun 18 = .ok (.iadd, 1) := by decide +kernel
theorem dX3_countRun_19 : decode cX3_countRun 19 = .ok (.putfield 18, 3) := by decide +kernel
theorem dX3_countRun_22 : decode cX3_countRun 22 = .ok (.return_, 1) := by decide +kernel
theorem dX3_tell_0 : decode cX3_tell 0 = .ok (.iload_n 1, 1) := by decide +kernel
theorem dX3_tell_1 : decode cX3_tell 1 = .ok (.tableswitch 51 0 3 #[31, 36, 41, 46], 31) := by decide +kernel
theorem dX3_tell_32 : decode cX3_tell 32 = .ok (.aload_n 0, 1) := by decide +kernel
theorem dX3_tell_33 : decode cX3_tell 33 = .ok (.getfield 18, 3) := by decide +kernel
theorem dX3_tell_36 : decode cX3_tell 36 = .ok (.ireturn, 1) := by decide +kernel
theorem dX3_tell_37 : decode cX3_tell 37 = .ok (.aload_n 0, 1) := by decide +kernel
theorem dX3_tell_38 : decode cX3_tell 38 = .ok (.getfield 21, 3) := by decide +kernel
theorem dX3_tell_41 : decode cX3_tell 41 = .ok (.ireturn, 1) := by decide +kernel
theorem dX3_tell_42 : decode cX3_tell 42 = .ok (.aload_n 0, 1) := by decide +kernel
theorem dX3_tell_43 : decode cX3_tell 43 = .ok (.getfield 24, 3) := by decide +kernel
theorem dX3_tell_46 : decode cX3_tell 46 = .ok (.ireturn, 1) := by decide +kernel
theorem dX3_tell_47 : decode cX3_tell 47 = .ok (.aload_n 0, 1) := by decide +kernel
theorem dX3_tell_48 : decode cX3_tell 48 = .ok (.getfield 9, 3) := by decide +kernel
theorem dX3_tell_51 : decode cX3_tell 51 = .ok (.ireturn, 1) := by decide +kernel
theorem dX3_tell_52 : decode cX3_tell 52 = .ok (.aload_n 0, 1) := by decide +kernel
theorem dX3_tell_53 : decode cX3_tell 53 = .ok (.getfield 15, 3) := by decide +kernel
theorem dX3_tell_56 : decode cX3_tell 56 = .ok (.ireturn, 1) := by decide +kernel
theorem dX4_init_0 : decode cX4_init 0 = .ok (.aload_n 0, 1) := by decide +kernel
theorem dX4_init_1 : decode cX4_init 1 = .ok (.invokespecial 3, 3) := by decide +kernel
theorem dX4_init_4 : decode cX4_init 4 = .ok (.aload_n 0, 1) := by decide +kernel
theorem dX4_init_5 : decode cX4_init 5 = .ok (.new 9, 3) := by decide +kernel
theorem dX4_init_8 : decode cX4_init 8 = .ok (.dup, 1) := by decide +kernel
theorem dX4_init_9 : decode cX4_init 9 = .ok (.invokespecial 11, 3) := by decide +kernel
theorem dX4_init_12 : decode cX4_init 12 = .ok (.putfield 12, 3) := by decide +kernel
theorem dX4_init_15 : decode cX4_init 15 = .ok (.aload_n 0, 1) := by decide +kernel
theorem dX4_init_16 : decode cX4_init 16 = .ok (.new 18, 3) := by decide +kernel
theorem dX4_init_19 : decode cX4_init 19 = .ok (.dup, 1) := by decide +kernel
theorem dX4_init_20 : decode cX4_init 20 = .ok (.invokespecial 20, 3) := by decide +kernel
theorem dX4_init_23 : decode cX4_init 23 = .ok (.putfield 21, 3) := by decide +kernel
theorem dX4_init_26 : decode cX4_init 26 = .ok (.aload_n 0, 1) := by decide +kernel
theorem dX4_init_27 : decode cX4_init 27 = .ok (.iconst 0, 1) := by decide +kernel
theorem dX4_init_28 : decode cX4_init 28 = .ok (.putfield 25, 3) := by decide +kernel
theorem dX4_init_31 : decode cX4_init 31 = .ok (.aload_n 0, 1) := by decide +kernel
theorem dX4_init_32 : decode cX4_init 32 = .ok (.iconst (-1), 1) := by decide +kernel
theorem dX4_init_33 : decode cX4_init 33 = .ok (.putfield 29, 3) := by decide +kernel
theorem dX4_init_36 : decode cX4_init 36 = .ok (.aload_n 0, 1) := by decide +kernel
theorem dX4_init_37 : decode cX4_init 37 = .ok (.iconst (-1), 1) := by decide +kernel
theorem dX4_init_38 : decode cX4_init 38 = .ok (.putfield 32, 3) := by decide +kernel
theorem dX4_init_41 : decode cX4_init 41 = .ok (.aload_n 0, 1) := by decide +kernel
theorem dX4_init_42 : decode cX4_init 42 = .ok (.iload_n 1, 1) := by decide +kernel
theorem dX4_init_43 : decode cX4_init 43 = .ok (.putfield 35, 3) := by decide +kernel
theorem dX4_init_46 : decode cX4_init 46 = .ok (.return_, 1) := by decide +kernel
theorem dX4_copyFrom_0 : decode cX4_copyFrom 0 = .ok (.aload_n 0, 1) := by decide +kernel
theorem dX4_copyFrom_1 : decode cX4_copyFrom 1 = .ok (.getfield 12, 3) := by decide +kernel
theorem dX4_copyFrom_4 : decode cX4_copyFrom 4 = .ok (.aload_n 1, 1) := by decide +kernel
theorem dX4_copyFrom_5 : decode cX4_copyFrom 5 = .ok (.getfield 12, 3) := by decide +kernel
theorem dX4_copyFrom_8 : decode cX4_copyFrom 8 = .ok (.invokevirtual 38, 3) := by decide +kernel
theorem dX4_copyFrom_11 : decode cX4_copyFrom 11 = .ok (.aload_n 0, 1) := by decide +kernel
theorem dX4_copyFrom_12 : decode cX4_copyFrom 12 = .ok (.getfield 21, 3) := by decide +kernel
theorem dX4_copyFrom_15 : decode cX4_copyFrom 15 = .ok (.aload_n 1, 1) := by decide +kernel
theorem dX4_copyFrom_16 : decode cX4_copyFrom 16 = .ok (.getfield 21, 3) := by decide +kernel
theorem dX4_copyFrom_19 : decode cX4_copyFrom 19 = .ok (.invokevirtual 42, 3) := by decide +kernel
theorem dX4_copyFrom_22 : decode cX4_copyFrom 22 = .ok (.aload_n 0, 1) := by decide +kernel
theorem dX4_copyFrom_23 : decode cX4_copyFrom 23 = .ok (.aload_n 1, 1) := by decide +kernel
theorem dX4_copyFrom_24 : decode cX4_copyFrom 24 = .ok (.getfield 45, 3) := by decide +kernel
theorem dX4_copyFrom_27 : decode cX4_copyFrom 27 = .ok (.putfield 45, 3) := by decide +kernel
theorem dX4_copyFrom_30 : decode cX4_copyFrom 30 = .ok (.aload_n 0, 1) := by decide +kernel
theorem dX4_copyFrom_31 : decode cX4_copyFrom 31 = .ok (.aload_n 1, 1) := by decide +kernel
theorem dX4_copyFrom_32 : decode cX4_copyFrom 32 = .ok (.getfield 48, 3) := by decide +kernel
theorem dX4_copyFrom_35 : decode cX4_copyFrom 35 = .ok (.putfield 48, 3) := by decide +kernel
theorem dX4_copyFrom_38 : decode cX4_copyFrom 38 = .ok (.aload_n 0, 1) := by decide +kernel
theorem dX4_copyFrom_39 : decode cX4_copyFrom 39 = .ok (.aload_n 1, 1) := by decide +kernel
theorem dX4_copyFrom_40 : decode cX4_copyFrom 40 = .ok (.getfield 25, 3) := by decide +kernel
theorem dX4_copyFrom_43 : decode cX4_copyFrom 43 = .ok (.putfield 25, 3) := by decide +kernel
theorem dX4_copyFrom_46 : decode cX4_copyFrom 46 = .ok (.aload_n 0, 1) := by decide +kernel
theorem dX4_copyFrom_47 : decode cX4_copyFrom 47 = .ok (.aload_n 1, 1) := by decide +kernel
theorem dX4_copyFrom_48 : decode cX4_copyFrom 48 = .ok (.getfield 51, 3) := by decide +kernel
theorem dX4_copyFrom_51 : decode cX4_copyFrom 51 = .ok (.putfield 51, 3) := by decide +kernel
theorem dX4_copyFrom_54 : decode cX4_copyFrom 54 = .ok (.aload_n 0, 1) := by decide +kernel
theorem dX4_copyFrom_55 : decode cX4_copyFrom 55 = .ok (.aload_n 1, 1) := by decide +kernel
theorem dX4_copyFrom_56 : decode cX4_copyFrom 56 = .ok (.getfield 54, 3) := by decide +kernel
theorem dX4_copyFrom_59 : decode cX4_copyFrom 59 = .ok (.putfield 54, 3) := by decide +kernel
theorem dX4_copyFrom_62 : decode cX4_copyFrom 62 = .ok (.aload_n 0, 1) := by decide +kernel
theorem dX4_copyFrom_63 : decode cX4_copyFrom 63 = .ok (.aload_n 1, 1) := by decide +kernel
theorem dX4_copyFrom_64 : decode cX4_copyFrom 64 = .ok (.getfield 57, 3) := by decide +kernel
theorem dX4_copyFrom_67 : decode cX4_copyFrom 67 = .ok (.putfield 57, 3) := by decide +kernel
theorem dX4_copyFrom_70 : decode cX4_copyFrom 70 = .ok (.aload_n 0, 1) := by decide +kernel
theorem dX4_copyFrom_71 : decode cX4_copyFrom 71 = .ok (.aload_n 1, 1) := by decide +kernel
theorem dX4_copyFrom_72 : decode cX4_copyFrom 72 = .ok (.getfield 29, 3) := by decide +kernel
theorem dX4_copyFrom_75 : decode cX4_copyFrom 75 = .ok (.putfield 29, 3) := by decide +kernel
theorem dX4_copyFrom_78 : decode cX4_copyFrom 78 = .ok (.aload_n 0, 1) := by decide +kernel
theorem dX4_copyFrom_79 : decode cX4_copyFrom 79 = .ok (.aload_n 1, 1) := by decide +kernel
theorem dX4_copyFrom_80 : decode cX4_copyFrom 80 = .ok (.getfield 60, 3) := by decide +kernel
theorem dX4_copyFrom_83 : decode cX4_copyFrom 83 = .ok (.putfield 60, 3) := by decide +kernel
theorem dX4_copyFrom_86 : decode cX4_copyFrom 86 = .ok (.aload_n 0, 1) := by decide +kernel
theorem dX4_copyFrom_87 : decode cX4_copyFrom 87 = .ok (.aload_n 1, 1) := by decide +kernel
theorem dX4_copyFrom_88 : decode cX4_copyFrom 88 = .ok (.getfield 63, 3) := by decide +kernel
theorem dX4_copyFrom_91 : decode cX4_copyFrom 91 = .ok (.putfield 63, 3) := by decide +kernel
theorem dX4_copyFrom_94 : decode cX4_copyFrom 94 = .ok (.aload_n 0, 1) := by decide +kernel
theorem dX4_copyFrom_95 : decode cX4_copyFrom 95 = .ok (.aload_n 1, 1) := by decide +kernel
theorem dX4_copyFrom_96 : decode cX4_copyFrom 96 = .ok (.getfield 66, 3) := by decide +kernel
theorem dX4_copyFrom_99 : decode cX4_copyFrom 99 = .ok (.putfield 66, 3) := by decide +kernel
theorem dX4_copyFrom_102 : decode cX4_copyFrom 102 = .ok (.aload_n 0, 1) := by decide +kernel
theorem dX4_copyFrom_103 : decode cX4_copyFrom 103 = .ok (.aload_n 1, 1) := by decide +kernel
theorem dX4_copyFrom_104 : decode cX4_copyFrom 104 = .ok (.getfield 32, 3) := by decide +kernel
theorem dX4_copyFrom_107 : decode cX4_copyFrom 107 = .ok (.putfield 32, 3) := by decide +kernel
theorem dX4_copyFrom_110 : decode cX4_copyFrom 110 = .ok (.aload_n 0, 1) := by decide +kernel
theorem dX4_copyFrom_111 : decode cX4_copyFrom 111 = .ok (.aload_n 1, 1) := by decide +kernel
theorem dX4_copyFrom_112 : decode cX4_copyFrom 112 = .ok (.getfield 69, 3) := by decide +kernel
theorem dX4_copyFrom_115 : decode cX4_copyFrom 115 = .ok (.putfield 69, 3) := by decide +kernel
theorem dX4_copyFrom_118 : decode cX4_copyFrom 118 = .ok (.aload_n 0, 1) := by decide +kernel
theorem dX4_copyFrom_119 : decode cX4_copyFrom 119 = .ok (.aload_n 1, 1) := by decide +kernel
theorem dX4_copyFrom_120 : decode cX4_copyFrom 120 = .ok (.getfield 72, 3) := by decide +kernel
theorem dX4_copyFrom_123 : decode cX4_copyFrom 123 = .ok (.putfield 72, 3) := by decide +kernel
theorem dX4_copyFrom_126 : decode cX4_copyFrom 126 = .ok (.return_, 1) := by decide +kernel
theorem dX4_key_0 : decode cX4_key 0 = .ok (.iload_n 1, 1) := by decide +kernel
theorem dX4_key_1 : decode cX4_key 1 = .ok (.lookupswitch 37 #[(0, 27), (1, 32)], 27) := by decide +kernel
theorem dX4_key_28 : decode cX4_key 28 = .ok (.aload_n 0, 1) := by decide +kernel
theorem dX4_key_29 : decode cX4_key 29 = .ok (.getfield 45, 3) := by decide +kernel
theorem dX4_key_32 : decode cX4_key 32 = .ok (.ireturn, 1) := by decide +kernel
theorem dX4_key_33 : decode cX4_key 33 = .ok (.aload_n 0, 1) := by decide +kernel
theorem dX4_key_34 : decode cX4_key 34 = .ok (.getfield 60, 3) := by decide +kernel
theorem dX4_key_37 : decode cX4_key 37 = .ok (.ireturn, 1) := by decide +kernel
theorem dX4_key_38 : decode cX4_key 38 = .ok (.aload_n 0, 1) := by decide +kernel
theorem dX4_key_39 : decode cX4_key 39 = .ok (.getfield 63, 3) := by decide +kernel
theorem dX4_key_42 : decode cX4_key 42 = .ok (.ireturn, 1) := by decide +kernel
theorem dX4_waitsAt_0 : decode cX4_waitsAt 0 = .ok (.aload_n 0, 1) := by decide +kernel
theorem dX4_waitsAt_1 : decode cX4_waitsAt 1 = .ok (.getfield 25, 3) := by decide +kernel
theorem dX4_waitsAt_4 : decode cX4_waitsAt 4 = .ok (.iload_n 1, 1) := by decide +kernel
theorem dX4_waitsAt_5 : decode cX4_waitsAt 5 = .ok (.if_icmp .ne 15, 3) := by decide +kernel
theorem dX4_waitsAt_8 : decode cX4_waitsAt 8 = .ok (.aload_n 0, 1) := by decide +kernel
theorem dX4_waitsAt_9 : decode cX4_waitsAt 9 = .ok (.getfield 32, 3) := by decide +kernel
theorem dX4_waitsAt_12 : decode cX4_waitsAt 12 = .ok (.iload_n 2, 1) := by decide +kernel
theorem dX4_waitsAt_13 : decode cX4_waitsAt 13 = .ok (.if_icmp .ne 7, 3) := by decide +kernel
theorem dX4_waitsAt_16 : decode cX4_waitsAt 16 = .ok (.iconst 1, 1) := by decide +kernel
theorem dX4_waitsAt_17 : decode cX4_waitsAt 17 = .ok (.goto 4, 3) := by decide +kernel
theorem dX4_waitsAt_20 : decode cX4_waitsAt 20 = .ok (.iconst 0, 1) := by decide +kernel
theorem dX4_waitsAt_21 : decode cX4_waitsAt 21 = .ok (.ireturn, 1) := by decide +kernel
theorem dX4_isThrough_0 : decode cX4_isThrough 0 = .ok (.aload_n 0, 1) := by decide +kernel
theorem dX4_isThrough_1 : decode cX4_isThrough 1 = .ok (.getfield 57, 3) := by decide +kernel
theorem dX4_isThrough_4 : decode cX4_isThrough 4 = .ok (.aload_n 0, 1) := by decide +kernel
theorem dX4_isThrough_5 : decode cX4_isThrough 5 = .ok (.getfield 12, 3) := by decide +kernel
theorem dX4_isThrough_8 : decode cX4_isThrough 8 = .ok (.getfield 75, 3) := by decide +kernel
theorem dX4_isThrough_11 : decode cX4_isThrough 11 = .ok (.if_icmp .lt 7, 3) := by decide +kernel
theorem dX4_isThrough_14 : decode cX4_isThrough 14 = .ok (.iconst 1, 1) := by decide +kernel
theorem dX4_isThrough_15 : decode cX4_isThrough 15 = .ok (.goto 4, 3) := by decide +kernel
theorem dX4_isThrough_18 : decode cX4_isThrough 18 = .ok (.iconst 0, 1) := by decide +kernel
theorem dX4_isThrough_19 : decode cX4_isThrough 19 = .ok (.ireturn, 1) := by decide +kernel
theorem dX4_comesAhead_0 : decode cX4_comesAhead 0 = .ok (.aload_n 0, 1) := by decide +kernel
theorem dX4_comesAhead_1 : decode cX4_comesAhead 1 = .ok (.getfield 72, 3) := by decide +kernel
theorem dX4_comesAhead_4 : decode cX4_comesAhead 4 = .ok (.aload_n 1, 1) := by decide +kernel
theorem dX4_comesAhead_5 : decode cX4_comesAhead 5 = .ok (.getfield 72, 3) := by decide +kernel
theorem dX4_comesAhead_8 : decode cX4_comesAhead 8 = .ok (.if_icmp .eq 20, 3) := by decide +kernel
theorem dX4_comesAhead_11 : decode cX4_comesAhead 11 = .ok (.aload_n 0, 1) := by decide +kernel
theorem dX4_comesAhead_12 : decode cX4_comesAhead 12 = .ok (.getfield 72, 3) := by decide +kernel
theorem dX4_comesAhead_15 : decode cX4_comesAhead 15 = .ok (.aload_n 1, 1) := by decide +kernel
theorem dX4_comesAhead_16 : decode cX4_comesAhead 16 = .ok (.getfield 72, 3) := by decide +kernel
theorem dX4_comesAhead_19 : decode cX4_comesAhead 19 = .ok (.if_icmp .ge 7, 3) := by decide +kernel
theorem dX4_comesAhead_22 : decode cX4_comesAhead 22 = .ok (.iconst 1, 1) := by decide +kernel
theorem dX4_comesAhead_23 : decode cX4_comesAhead 23 = .ok (.goto 4, 3) := by decide +kernel
theorem dX4_comesAhead_26 : decode cX4_comesAhead 26 = .ok (.iconst 0, 1) := by decide +kernel
theorem dX4_comesAhead_27 : decode cX4_comesAhead 27 = .ok (.ireturn, 1) := by decide +kernel
theorem dX4_comesAhead_28 : decode cX4_comesAhead 28 = .ok (.aload_n 0, 1) := by decide +kernel
theorem dX4_comesAhead_29 : decode cX4_comesAhead 29 = .ok (.getfield 25, 3) := by decide +kernel
theorem dX4_comesAhead_32 : decode cX4_comesAhead 32 = .ok (.aload_n 1, 1) := by decide +kernel
theorem dX4_comesAhead_33 : decode cX4_comesAhead 33 = .ok (.getfield 25, 3) := by decide +kernel
theorem dX4_comesAhead_36 : decode cX4_comesAhead 36 = .ok (.if_icmp .eq 17, 3) := by decide +kernel
theorem dX4_comesAhead_39 : decode cX4_comesAhead 39 = .ok (.aload_n 0, 1) := by decide +kernel
theorem dX4_comesAhead_40 : decode cX4_comesAhead 40 = .ok (.getfield 25, 3) := by decide +kernel
theorem dX4_comesAhead_43 : decode cX4_comesAhead 43 = .ok (.iconst 2, 1) := by decide +kernel
theorem dX4_comesAhead_44 : decode cX4_comesAhead 44 = .ok (.if_icmp .ne 7, 3) := by decide +kernel
theorem dX4_comesAhead_47 : decode cX4_comesAhead 47 = .ok (.iconst 1, 1) := by decide +kernel
theorem dX4_comesAhead_48 : decode cX4_comesAhead 48 = .ok (.goto 4, 3) := by decide +kernel
theorem dX4_comesAhead_51 : decode cX4_comesAhead 51 = .ok (.iconst 0, 1) := by decide +kernel
theorem dX4_comesAhead_52 : decode cX4_comesAhead 52 = .ok (.ireturn, 1) := by decide +kernel
theorem dX4_comesAhead_53 : decode cX4_comesAhead 53 = .ok (.aload_n 0, 1) := by decide +kernel
theorem dX4_comesAhead_54 : decode cX4_comesAhead 54 = .ok (.getfield 29, 3) := by decide +kernel
theorem dX4_comesAhead_57 : decode cX4_comesAhead 57 = .ok (.aload_n 1, 1) := by decide +kernel
theorem dX4_comesAhead_58 : decode cX4_comesAhead 58 = .ok (.getfield 29, 3) := by decide +kernel
theorem dX4_comesAhead_61 : decode cX4_comesAhead 61 = .ok (.if_icmp .ge 7, 3) := by decide +kernel
theorem dX4_comesAhead_64 : decode cX4_comesAhead 64 = .ok (.iconst 1, 1) := by decide +kernel
theorem dX4_comesAhead_65 : decode cX4_comesAhead 65 = .ok (.goto 4, 3) := by decide +kernel
theorem dX4_comesAhead_68 : decode cX4_comesAhead 68 = .ok (.iconst 0, 1) := by decide +kernel
theorem dX4_comesAhead_69 : decode cX4_comesAhead 69 = .ok (.ireturn, 1) := by decide +kernel
theorem dX4_inheritsAhead_0 : decode cX4_inheritsAhead 0 = .ok (.aload_n 0, 1) := by decide +kernel
theorem dX4_inheritsAhead_1 : decode cX4_inheritsAhead 1 = .ok (.getfield 72, 3) := by decide +kernel
theorem dX4_inheritsAhead_4 : decode cX4_inheritsAhead 4 = .ok (.aload_n 1, 1) := by decide +kernel
theorem dX4_inheritsAhead_5 : decode cX4_inheritsAhead 5 = .ok (.getfield 72, 3) := by decide +kernel
theorem dX4_inheritsAhead_8 : decode cX4_inheritsAhead 8 = .ok (.if_icmp .eq 22, 3) := by decide +kernel
theorem dX4_inheritsAhead_11 : decode cX4_inheritsAhead 11 = .ok (.aload_n 0, 1) := by decide +kernel
theorem dX4_inheritsAhead_12 : decode cX4_inheritsAhead 12 = .ok (.getfield 72, 3) := by decide +kernel
theorem dX4_inheritsAhead_15 : decode cX4_inheritsAhead 15 = .ok (.aload_n 1, 1) := by decide +kernel
theorem dX4_inheritsAhead_16 : decode cX4_inheritsAhead 16 = .ok (.getfield 72, 3) := by decide +kernel
theorem dX4_inheritsAhead_19 : decode cX4_inheritsAhead 19 = .ok (.if_icmp .ge 7, 3) := by decide +kernel
theorem dX4_inheritsAhead_22 : decode cX4_inheritsAhead 22 = .ok (.iconst 1, 1) := by decide +kernel
theorem dX4_inheritsAhead_23 : decode cX4_inheritsAhead 23 = .ok (.goto 23, 3) := by decide +kernel
theorem dX4_inheritsAhead_26 : decode cX4_inheritsAhead 26 = .ok (.iconst 0, 1) := by decide +kernel
theorem dX4_inheritsAhead_27 : decode cX4_inheritsAhead 27 = .ok (.goto 19, 3) := by decide +kernel
theorem dX4_inheritsAhead_30 : decode cX4_inheritsAhead 30 = .ok (.aload_n 0, 1) := by decide +kernel
theorem dX4_inheritsAhead_31 : decode cX4_inheritsAhead 31 = .ok (.getfield 69, 3) := by decide +kernel
theorem dX4_inheritsAhead_34 : decode cX4_inheritsAhead 34 = .ok (.aload_n 1, 1) := by decide +kernel
theorem dX4_inheritsAhead_35 : decode cX4_inheritsAhead 35 = .ok (.getfield 69, 3) := by decide +kernel
theorem dX4_inheritsAhead_38 : decode cX4_inheritsAhead 38 = .ok (.if_icmp .ge 7, 3) := by decide +kernel
theorem dX4_inheritsAhead_41 : decode cX4_inheritsAhead 41 = .ok (.iconst 1, 1) := by decide +kernel
theorem dX4_inheritsAhead_42 : decode cX4_inheritsAhead 42 = .ok (.goto 4, 3) := by decide +kernel
theorem dX4_inheritsAhead_45 : decode cX4_inheritsAhead 45 = .ok (.iconst 0, 1) := by decide +kernel
theorem dX4_inheritsAhead_46 : decode cX4_inheritsAhead 46 = .ok (.ireturn, 1) := by decide +kernel
theorem dX4_addTime_0 : decode cX4_addTime 0 = .ok (.bipush 8, 2) := by decide +kernel
theorem dX4_addTime_2 : decode cX4_addTime 2 = .ok (.aload_n 0, 1) := by decide +kernel
theorem dX4_addTime_3 : decode cX4_addTime 3 = .ok (.getfield 45, 3) := by decide +kernel
theorem dX4_addTime_6 : decode cX4_addTime 6 = .ok (.isub, 1) := by decide +kernel
theorem dX4_addTime_7 : decode cX4_addTime 7 = .ok (.istore_n 1, 1) := by decide +kernel
theorem dX4_addTime_8 : decode cX4_addTime 8 = .ok (.iload_n 1, 1) := by decide +kernel
theorem dX4_addTime_9 : decode cX4_addTime 9 = .ok (.ifCond .le 17, 3) := by decide +kernel
theorem dX4_addTime_12 : decode cX4_addTime 12 = .ok (.aload_n 0, 1) := by decide +kernel
theorem dX4_addTime_13 : decode cX4_addTime 13 = .ok (.dup, 1) := by decide +kernel
theorem dX4_addTime_14 : decode cX4_addTime 14 = .ok (.getfield 63, 3) := by decide +kernel
theorem dX4_addTime_17 : decode cX4_addTime 17 = .ok (.sipush 840, 3) := by decide +kernel
theorem dX4_addTime_20 : decode cX4_addTime 20 = .ok (.iload_n 1, 1) := by decide +kernel
theorem dX4_addTime_21 : decode cX4_addTime 21 = .ok (.idiv, 1) := by decide +kernel
theorem dX4_addTime_22 : decode cX4_addTime 22 = .ok (.iadd, 1) := by decide +kernel
theorem dX4_addTime_23 : decode cX4_addTime 23 = .ok (.putfield 63, 3) := by decide +kernel
theorem dX4_addTime_26 : decode cX4_addTime 26 = .ok (.return_, 1) := by decide +kernel
theorem dX4_countTickOfStep_0 : decode cX4_countTickOfStep 0 = .ok (.aload_n 0, 1) := by decide +kernel
theorem dX4_countTickOfStep_1 : decode cX4_countTickOfStep 1 = .ok (.dup, 1) := by decide +kernel
theorem dX4_countTickOfStep_2 : decode cX4_countTickOfStep 2 = .ok (.getfield 54, 3) := by decide +kernel
theorem dX4_countTickOfStep_5 : decode cX4_countTickOfStep 5 = .ok (.iconst 1, 1) := by decide +kernel
theorem dX4_countTickOfStep_6 : decode cX4_countTickOfStep 6 = .ok (.iadd, 1) := by decide +kernel
theorem dX4_countTickOfStep_7 : decode cX4_countTickOfStep 7 = .ok (.putfield 54, 3) := by decide +kernel
theorem dX4_countTickOfStep_10 : decode cX4_countTickOfStep 10 = .ok (.aload_n 0, 1) := by decide +kernel
theorem dX4_countTickOfStep_11 : decode cX4_countTickOfStep 11 = .ok (.getfield 54, 3) := by decide +kernel
theorem dX4_countTickOfStep_14 : decode cX4_countTickOfStep 14 = .ok (.aload_n 0, 1) := by decide +kernel
theorem dX4_countTickOfStep_15 : decode cX4_countTickOfStep 15 = .ok (.getfield 12, 3) := by decide +kernel
theorem dX4_countTickOfStep_18 : decode cX4_countTickOfStep 18 = .ok (.aload_n 0, 1) := by decide +kernel
theorem dX4_countTickOfStep_19 : decode cX4_countTickOfStep 19 = .ok (.getfield 51, 3) := by decide +kernel
theorem dX4_countTickOfStep_22 : decode cX4_countTickOfStep 22 = .ok (.invokevirtual 78, 3) := by decide +kernel
theorem dX4_countTickOfStep_25 : decode cX4_countTickOfStep 25 = .ok (.if_icmp .ge 4, 3) := by decide +kernel
theorem dX4_countTickOfStep_28 : decode cX4_countTickOfStep 28 = .ok (.return_, 1) := by decide +kernel
theorem dX4_countTickOfStep_29 : decode cX4_countTickOfStep 29 = .ok (.aload_n 0, 1) := by decide +kernel
theorem dX4_countTickOfStep_30 : decode cX4_countTickOfStep 30 = .ok (.iconst 0, 1) := by decide +kernel
theorem dX4_countTickOfStep_31 : decode cX4_countTickOfStep 31 = .ok (.putfield 54, 3) := by decide +kernel
theorem dX4_countTickOfStep_34 : decode cX4_countTickOfStep 34 = .ok (.aload_n 0, 1) := by decide +kernel
theorem dX4_countTickOfStep_35 : decode cX4_countTickOfStep 35 = .ok (.dup, 1) := by decide +kernel
theorem dX4_countTickOfStep_36 : decode cX4_countTickOfStep 36 = .ok (.getfield 51, 3) := by decide +kernel
theorem dX4_countTickOfStep_39 : decode cX4_countTickOfStep 39 = .ok (.iconst 1, 1) := by decide +kernel
theorem dX4_countTickOfStep_40 : decode cX4_countTickOfStep 40 = .ok (.iadd, 1) := by decide +kernel
theorem dX4_countTickOfStep_41 : decode cX4_countTickOfStep 41 = .ok (.putfield 51, 3) := by decide +kernel
theorem dX4_countTickOfStep_44 : decode cX4_countTickOfStep 44 = .ok (.aload_n 0, 1) := by decide +kernel
theorem dX4_countTickOfStep_45 : decode cX4_countTickOfStep 45 = .ok (.getfield 51, 3) := by decide +kernel
theorem dX4_countTickOfStep_48 : decode cX4_countTickOfStep 48 = .ok (.aload_n 0, 1) := by decide +kernel
theorem dX4_countTickOfStep_49 : decode cX4_countTickOfStep 49 = .ok (.getfield 12, 3) := by decide +kernel
theorem dX4_countTickOfStep_52 : decode cX4_countTickOfStep 52 = .ok (.getfield 82, 3) := by decide +kernel
theorem dX4_countTickOfStep_55 : decode cX4_countTickOfStep 55 = .ok (.if_icmp .lt 18, 3) := by decide +kernel
theorem dX4_countTickOfStep_58 : decode cX4_countTickOfStep 58 = .ok (.aload_n 0, 1) := by decide +kernel
theorem dX4_countTickOfStep_59 : decode cX4_countTickOfStep 59 = .ok (.iconst 0, 1) := by decide +kernel
theorem dX4_countTickOfStep_60 : decode cX4_countTickOfStep 60 = .ok (.putfield 51, 3) := by decide +kernel
theorem dX4_countTickOfStep_63 : decode cX4_countTickOfStep 63 = .ok (.aload_n 0, 1) := by decide +kernel
theorem dX4_countTickOfStep_64 : decode cX4_countTickOfStep 64 = .ok (.dup, 1) := by decide +kernel
theorem dX4_countTickOfStep_65 : decode cX4_countTickOfStep 65 = .ok (.getfield 57, 3) := by decide +kernel
theorem dX4_countTickOfStep_68 : decode cX4_countTickOfStep 68 = .ok (.iconst 1, 1) := by decide +kernel
theorem dX4_countTickOfStep_69 : decode cX4_countTickOfStep 69 = .ok (.iadd, 1) := by decide +kernel
theorem dX4_countTickOfStep_70 : decode cX4_countTickOfStep 70 = .ok (.putfield 57, 3) := by decide +kernel
theorem dX4_countTickOfStep_73 : decode cX4_countTickOfStep 73 = .ok (.return_, 1) := by decide +kernel
theorem dX5_init_0 : decode cX5_init 0 = .ok (.aload_n 0, 1) := by decide +kernel
theorem dX5_init_1 : decode cX5_init 1 = .ok (.invokespecial 3, 3) := by decide +kernel
theorem dX5_init_4 : decode cX5_init 4 = .ok (.aload_n 0, 1) := by decide +kernel
theorem dX5_init_5 : decode cX5_init 5 = .ok (.iconst 3, 1) := by decide +kernel
theorem dX5_init_6 : decode cX5_init 6 = .ok (.bipush 30, 2) := by decide +kernel
theorem dX5_init_8 : decode cX5_init 8 = .ok (.multianewarray 9 2, 4) := by decide +kernel
theorem dX5_init_12 : decode cX5_init 12 = .ok (.putfield 11, 3) := by decide +kernel
theorem dX5_init_15 : decode cX5_init 15 = .ok (.return_, 1) := by decide +kernel
theorem dX5_copyFrom_0 : decode cX5_copyFrom 0 = .ok (.aload_n 0, 1) := by decide +kernel
theorem dX5_copyFrom_1 : decode cX5_copyFrom 1 = .ok (.aload_n 1, 1) := by decide +kernel
theorem dX5_copyFrom_2 : decode cX5_copyFrom 2 = .ok (.getfield 16, 3) := by decide +kernel
theorem dX5_copyFrom_5 : decode cX5_copyFrom 5 = .ok (.putfield 16, 3) := by decide +kernel
theorem dX5_copyFrom_8 : decode cX5_copyFrom 8 = .ok (.aload_n 0, 1) := by decide +kernel
theorem dX5_copyFrom_9 : decode cX5_copyFrom 9 = .ok (.aload_n 1, 1) := by decide +kernel
theorem dX5_copyFrom_10 : decode cX5_copyFrom 10 = .ok (.getfield 20, 3) := by decide +kernel
theorem dX5_copyFrom_13 : decode cX5_copyFrom 13 = .ok (.putfield 20, 3) := by decide +kernel
theorem dX5_copyFrom_16 : decode cX5_copyFrom 16 = .ok (.aload_n 0, 1) := by decide +kernel
theorem dX5_copyFrom_17 : decode cX5_copyFrom 17 = .ok (.aload_n 1, 1) := by decide +kernel
theorem dX5_copyFrom_18 : decode cX5_copyFrom 18 = .ok (.getfield 23, 3) := by decide +kernel
theorem dX5_copyFrom_21 : decode cX5_copyFrom 21 = .ok (.putfield 23, 3) := by decide +kernel
theorem dX5_copyFrom_24 : decode cX5_copyFrom 24 = .ok (.iconst 0, 1) := by decide +kernel
theorem dX5_copyFrom_25 : decode cX5_copyFrom 25 = .ok (.istore_n 2, 1) := by decide +kernel
theorem dX5_copyFrom_26 : decode cX5_copyFrom 26 = .ok (.iload_n 2, 1) := by decide +kernel
theorem dX5_copyFrom_27 : decode cX5_copyFrom 27 = .ok (.iconst 3, 1) := by decide +kernel
theorem dX5_copyFrom_28 : decode cX5_copyFrom 28 = .ok (.if_icmp .ge 28, 3) := by decide +kernel
theorem dX5_copyFrom_31 : decode cX5_copyFrom 31 = .ok (.aload_n 1, 1) := by decide +kernel
theorem dX5_copyFrom_32 : decode cX5_copyFrom 32 = .ok (.getfield 11, 3) := by decide +kernel
theorem dX5_copyFrom_35 : decode cX5_copyFrom 35 = .ok (.iload_n 2, 1) := by decide +kernel
theorem dX5_copyFrom_36 : decode cX5_copyFrom 36 = .ok (.aaload, 1) := by decide +kernel
theorem dX5_copyFrom_37 : decode cX5_copyFrom 37 = .ok (.iconst 0, 1) := by decide +kernel
theorem dX5_copyFrom_38 : decode cX5_copyFrom 38 = .ok (.aload_n 0, 1) := by decide +kernel
theorem dX5_copyFrom_39 : decode cX5_copyFrom 39 = .ok (.getfield 11, 3) := by decide +kernel
theorem dX5_copyFrom_42 : decode cX5_copyFrom 42 = .ok (.iload_n 2, 1) := by decide +kernel
theorem dX5_copyFrom_43 : decode cX5_copyFrom 43 = .ok (.aaload, 1) := by decide +kernel
theorem dX5_copyFrom_44 : decode cX5_copyFrom 44 = .ok (.iconst 0, 1) := by decide +kernel
theorem dX5_copyFrom_45 : decode cX5_copyFrom 45 = .ok (.bipush 30, 2) := by decide +kernel
theorem dX5_copyFrom_47 : decode cX5_copyFrom 47 = .ok (.invokestatic 26, 3) := by decide +kernel
theorem dX5_copyFrom_50 : decode cX5_copyFrom 50 = .ok (.iinc 2 1, 3) := by decide +kernel
theorem dX5_copyFrom_53 : decode cX5_copyFrom 53 = .ok (.goto (-27), 3) := by decide +kernel
theorem dX5_copyFrom_56 : decode cX5_copyFrom 56 = .ok (.return_, 1) := by decide +kernel
theorem dX5_note_0 : decode cX5_note 0 = .ok (.iload_n 1, 1) := by decide +kernel
theorem dX5_note_1 : decode cX5_note 1 = .ok (.ifCond .lt 24, 3) := by decide +kernel
theorem dX5_note_4 : decode cX5_note 4 = .ok (.iload_n 1, 1) := by decide +kernel
theorem dX5_note_5 : decode cX5_note 5 = .ok (.iconst 3, 1) := by decide +kernel
theorem dX5_note_6 : decode cX5_note 6 = .ok (.if_icmp .ge 19, 3) := by decide +kernel
theorem dX5_note_9 : decode cX5_note 9 = .ok (.iload_n 2, 1) := by decide +kernel
theorem dX5_note_10 : decode cX5_note 10 = .ok (.ifCond .lt 15, 3) := by decide +kernel
theorem dX5_note_13 : decode cX5_note 13 = .ok (.aload_n 0, 1) := by decide +kernel
theorem dX5_note_14 : decode cX5_note 14 = .ok (.getfield 11, 3) := by decide +kernel
theorem dX5_note_17 : decode cX5_note 17 = .ok (.iload_n 1, 1) := by decide +kernel
theorem dX5_note_18 : decode cX5_note 18 = .ok (.aaload, 1) := by decide +kernel
theorem dX5_note_19 : decode cX5_note 19 = .ok (.iload_n 2, 1) := by decide +kernel
theorem dX5_note_20 : decode cX5_note 20 = .ok (.bipush 30, 2) := by decide +kernel
theorem dX5_note_22 : decode cX5_note 22 = .ok (.irem, 1) := by decide +kernel
theorem dX5_note_23 : decode cX5_note 23 = .ok (.iload_n 3, 1) := by decide +kernel
theorem dX5_note_24 : decode cX5_note 24 = .ok (.iastore, 1) := by decide +kernel
theorem dX5_note_25 : decode cX5_note 25 = .ok (.return_, 1) := by decide +kernel
theorem dX5_countOffer_0 : decode cX5_countOffer 0 = .ok (.aload_n 0, 1) := by decide +kernel
theorem dX5_countOffer_1 : decode cX5_countOffer 1 = .ok (.dup, 1) := by decide +kernel
theorem dX5_countOffer_2 : decode cX5_countOffer 2 = .ok (.getfield 23, 3) := by decide +kernel
theorem dX5_countOffer_5 : decode cX5_countOffer 5 = .ok (.iconst 1, 1) := by decide +kernel
theorem dX5_countOffer_6 : decode cX5_countOffer 6 = .ok (.iadd, 1) := by decide +kernel
theorem dX5_countOffer_7 : decode cX5_countOffer 7 = .ok (.putfield 23, 3) := by decide +kernel
theorem dX5_countOffer_10 : decode cX5_countOffer 10 = .ok (.iload_n 1, 1) := by decide +kernel
theorem dX5_countOffer_11 : decode cX5_countOffer 11 = .ok (.ifCond .ne 13, 3) := by decide +kernel
theorem dX5_countOffer_14 : decode cX5_countOffer 14 = .ok (.aload_n 0, 1) := by decide +kernel
theorem dX5_countOffer_15 : decode cX5_countOffer 15 = .ok (.dup, 1) := by decide +kernel
theorem dX5_countOffer_16 : decode cX5_countOffer 16 = .ok (.getfield 20, 3) := by decide +kernel
theorem dX5_countOffer_19 : decode cX5_countOffer 19 = .ok (.iconst 1, 1) := by decide +kernel
theorem dX5_countOffer_20 : decode cX5_countOffer 20 = .ok (.iadd, 1) := by decide +kernel
theorem dX5_countOffer_21 : decode cX5_countOffer 21 = .ok (.putfield 20, 3) := by decide +kernel
theorem dX5_countOffer_24 : decode cX5_countOffer 24 = .ok (.return_, 1) := by decide +kernel
theorem dX5_ranIn_0 : decode cX5_ranIn 0 = .ok (.iload_n 1, 1) := by decide +kernel
theorem dX5_ranIn_1 : decode cX5_ranIn 1 = .ok (.ifCond .lt 12, 3) := by decide +kernel
theorem dX5_ranIn_4 : decode cX5_ranIn 4 = .ok (.iload_n 1, 1) := by decide +kernel
theorem dX5_ranIn_5 : decode cX5_ranIn 5 = .ok (.iconst 3, 1) := by decide +kernel
theorem dX5_ranIn_6 : decode cX5_ranIn 6 = .ok (.if_icmp .ge 7, 3) := by decide +kernel
theorem dX5_ranIn_9 : decode cX5_ranIn 9 = .ok (.iload_n 2, 1) := by decide +kernel
theorem dX5_ranIn_10 : decode cX5_ranIn 10 = .ok (.ifCond .ge 6, 3) := by decide +kernel
theorem dX5_ranIn_13 : decode cX5_ranIn 13 = .ok (.bipush (-2), 2) := by decide +kernel
theorem dX5_ranIn_15 : decode cX5_ranIn 15 = .ok (.ireturn, 1) := by decide +kernel
theorem dX5_ranIn_16 : decode cX5_ranIn 16 = .ok (.aload_n 0, 1) := by decide +kernel
theorem dX5_ranIn_17 : decode cX5_ranIn 17 = .ok (.getfield 11, 3) := by decide +kernel
theorem dX5_ranIn_20 : decode cX5_ranIn 20 = .ok (.iload_n 1, 1) := by decide +kernel
theorem dX5_ranIn_21 : decode cX5_ranIn 21 = .ok (.aaload, 1) := by decide +kernel
theorem dX5_ranIn_22 : decode cX5_ranIn 22 = .ok (.iload_n 2, 1) := by decide +kernel
theorem dX5_ranIn_23 : decode cX5_ranIn 23 = .ok (.bipush 30, 2) := by decide +kernel
theorem dX5_ranIn_25 : decode cX5_ranIn 25 = .ok (.irem, 1) := by decide +kernel
theorem dX5_ranIn_26 : decode cX5_ranIn 26 = .ok (.iaload, 1) := by decide +kernel
theorem dX5_ranIn_27 : decode cX5_ranIn 27 = .ok (.ireturn, 1) := by decide +kernel
theorem dX6_init_0 : decode cX6_init 0 = .ok (.aload_n 0, 1) := by decide +kernel
theorem dX6_init_1 : decode cX6_init 1 = .ok (.invokespecial 1, 3) := by decide +kernel
theorem dX6_init_4 : decode cX6_init 4 = .ok (.aload_n 0, 1) := by decide +kernel
theorem dX6_init_5 : decode cX6_init 5 = .ok (.new 7, 3) := by decide +kernel
theorem dX6_init_8 : decode cX6_init 8 = .ok (.dup, 1) := by decide +kernel
theorem dX6_init_9 : decode cX6_init 9 = .ok (.invokespecial 9, 3) := by decide +kernel
theorem dX6_init_12 : decode cX6_init 12 = .ok (.putfield 10, 3) := by decide +kernel
theorem dX6_init_15 : decode cX6_init 15 = .ok (.aload_n 0, 1) := by decide +kernel
theorem dX6_init_16 : decode cX6_init 16 = .ok (.new 7, 3) := by decide +kernel
theorem dX6_init_19 : decode cX6_init 19 = .ok (.dup, 1) := by decide +kernel
theorem dX6_init_20 : decode cX6_init 20 = .ok (.invokespecial 9, 3) := by decide +kernel
theorem dX6_init_23 : decode cX6_init 23 = .ok (.putfield 16, 3) := by decide +kernel
theorem dX6_init_26 : decode cX6_init 26 = .ok (.return_, 1) := by decide +kernel
theorem dX6_setProcessors_0 : decode cX6_setProcessors 0 = .ok (.iload_n 1, 1) := by decide +kernel
theorem dX6_setProcessors_1 : decode cX6_setProcessors 1 = .ok (.iconst 1, 1) := by decide +kernel
theorem dX6_setProcessors_2 : decode cX6_setProcessors 2 = .ok (.if_icmp .lt 12, 3) := by decide +kernel
theorem dX6_setProcessors_5 : decode cX6_setProcessors 5 = .ok (.iload_n 1, 1) := by decide +kernel
theorem dX6_setProcessors_6 : decode cX6_setProcessors 6 = .ok (.iconst 3, 1) := by decide +kernel
theorem dX6_setProcessors_7 : decode cX6_setProcessors 7 = .ok (.if_icmp .gt 7, 3) := by decide +kernel
theorem dX6_setProcessors_10 : decode cX6_setProcessors 10 = .ok (.iconst 1, 1) := by decide +kernel
theorem dX6_setProcessors_11 : decode cX6_setProcessors 11 = .ok (.goto 4, 3) := by decide +kernel
theorem dX6_setProcessors_14 : decode cX6_setProcessors 14 = .ok (.iconst 0, 1) := by decide +kernel
theorem dX6_setProcessors_15 : decode cX6_setProcessors 15 = .ok (.invokestatic 19, 3) := by decide +kernel
theorem dX6_setProcessors_18 : decode cX6_setProcessors 18 = .ok (.aload_n 0, 1) := by decide +kernel
theorem dX6_setProcessors_19 : decode cX6_setProcessors 19 = .ok (.getfield 10, 3) := by decide +kernel
theorem dX6_setProcessors_22 : decode cX6_setProcessors 22 = .ok (.getfield 23, 3) := by decide +kernel
theorem dX6_setProcessors_25 : decode cX6_setProcessors 25 = .ok (.getfield 27, 3) := by decide +kernel
theorem dX6_setProcessors_28 : decode cX6_setProcessors 28 = .ok (.istore_n 2, 1) := by decide +kernel
theorem dX6_setProcessors_29 : decode cX6_setProcessors 29 = .ok (.aload_n 0, 1) := by decide +kernel
theorem dX6_setProcessors_30 : decode cX6_setProcessors 30 = .ok (.getfield 10, 3) := by decide +kernel
theorem dX6_setProcessors_33 : decode cX6_setProcessors 33 = .ok (.invokevirtual 33, 3) := by decide +kernel
theorem dX6_setProcessors_36 : decode cX6_setProcessors 36 = .ok (.aload_n 0, 1) := by decide +kernel
theorem dX6_setProcessors_37 : decode cX6_setProcessors 37 = .ok (.getfield 10, 3) := by decide +kernel
theorem dX6_setProcessors_40 : decode cX6_setProcessors 40 = .ok (.getfield 23, 3) := by decide +kernel
theorem dX6_setProcessors_43 : decode cX6_setProcessors 43 = .ok (.iload_n 1, 1) := by decide +kernel
theorem dX6_setProcessors_44 : decode cX6_setProcessors 44 = .ok (.putfield 27, 3) := by decide +kernel
theorem dX6_setProcessors_47 : decode cX6_setProcessors 47 = .ok (.iload_n 2, 1) := by decide +kernel
theorem dX6_setProcessors_48 : decode cX6_setProcessors 48 = .ok (.ireturn, 1) := by decide +kernel
theorem dX6_setWay_0 : decode cX6_setWay 0 = .ok (.iload_n 1, 1) := by decide +kernel
theorem dX6_setWay_1 : decode cX6_setWay 1 = .ok (.ifCond .lt 12, 3) := by decide +kernel
theorem dX6_setWay_4 : decode cX6_setWay 4 = .ok (.iload_n 1, 1) := by decide +kernel
theorem dX6_setWay_5 : decode cX6_setWay 5 = .ok (.iconst 2, 1) := by decide +kernel
theorem dX6_setWay_6 : decode cX6_setWay 6 = .ok (.if_icmp .gt 7, 3) := by decide +kernel
theorem dX6_setWay_9 : decode cX6_setWay 9 = .ok (.iconst 1, 1) := by decide +kernel
theorem dX6_setWay_10 : decode cX6_setWay 10 = .ok (.goto 4, 3) := by decide +kernel
theorem dX6_setWay_13 : decode cX6_setWay 13 = .ok (.iconst 0, 1) := by decide +kernel
theorem dX6_setWay_14 : decode cX6_setWay 14 = .ok (.invokestatic 19, 3) := by decide +kernel
theorem dX6_setWay_17 : decode cX6_setWay 17 = .ok (.iload_n 2, 1) := by decide +kernel
theorem dX6_setWay_18 : decode cX6_setWay 18 = .ok (.iconst 1, 1) := by decide +kernel
theorem dX6_setWay_19 : decode cX6_setWay 19 = .ok (.if_icmp .lt 13, 3) := by decide +kernel
theorem dX6_setWay_22 : decode cX6_setWay 22 = .ok (.iload_n 2, 1) := by decide +kernel
theorem dX6_setWay_23 : decode cX6_setWay 23 = .ok (.bipush 10, 2) := by decide +kernel
theorem dX6_setWay_25 : decode cX6_setWay 25 = .ok (.if_icmp .gt 7, 3) := by decide +kernel
theorem dX6_setWay_28 : decode cX6_setWay 28 = .ok (.iconst 1, 1) := by decide +kernel
theorem dX6_setWay_29 : decode cX6_setWay 29 = .ok (.goto 4, 3) := by decide +kernel
theorem dX6_setWay_32 : decode cX6_setWay 32 = .ok (.iconst 0, 1) := by decide +kernel
theorem dX6_setWay_33 : decode cX6_setWay 33 = .ok (.invokestatic 19, 3) := by decide +kernel
theorem dX6_setWay_36 : decode cX6_setWay 36 = .ok (.iload_n 3, 1) := by decide +kernel
theorem dX6_setWay_37 : decode cX6_setWay 37 = .ok (.ifCond .lt 13, 3) := by decide +kernel
theorem dX6_setWay_40 : decode cX6_setWay 40 = .ok (.iload_n 3, 1) := by decide +kernel
theorem dX6_setWay_41 : decode cX6_setWay 41 = .ok (.bipush 50, 2) := by decide +kernel
theorem dX6_setWay_43 : decode cX6_setWay 43 = .ok (.if_icmp .gt 7, 3) := by decide +kernel
theorem dX6_setWay_46 : decode cX6_setWay 46 = .ok (.iconst 1, 1) := by decide +kernel
theorem dX6_setWay_47 : decode cX6_setWay 47 = .ok (.goto 4, 3) := by decide +kernel
theorem dX6_setWay_50 : decode cX6_setWay 50 = .ok (.iconst 0, 1) := by decide +kernel
theorem dX6_setWay_51 : decode cX6_setWay 51 = .ok (.invokestatic 19, 3) := by decide +kernel
theorem dX6_setWay_54 : decode cX6_setWay 54 = .ok (.aload_n 0, 1) := by decide +kernel
theorem dX6_setWay_55 : decode cX6_setWay 55 = .ok (.getfield 10, 3) := by decide +kernel
theorem dX6_setWay_58 : decode cX6_setWay 58 = .ok (.getfield 23, 3) := by decide +kernel
theorem dX6_setWay_61 : decode cX6_setWay 61 = .ok (.getfield 36, 3) := by decide +kernel
theorem dX6_setWay_64 : decode cX6_setWay 64 = .ok (.istore 4, 2) := by decide +kernel
theorem dX6_setWay_66 : decode cX6_setWay 66 = .ok (.aload_n 0, 1) := by decide +kernel
theorem dX6_setWay_67 : decode cX6_setWay 67 = .ok (.getfield 10, 3) := by decide +kernel
theorem dX6_setWay_70 : decode cX6_setWay 70 = .ok (.getfield 23, 3) := by decide +kernel
theorem dX6_setWay_73 : decode cX6_setWay 73 = .ok (.iload_n 1, 1) := by decide +kernel
theorem dX6_setWay_74 : decode cX6_setWay 74 = .ok (.putfield 36, 3) := by decide +kernel
theorem dX6_setWay_77 : decode cX6_setWay 77 = .ok (.aload_n 0, 1) := by decide +kernel
theorem dX6_setWay_78 : decode cX6_setWay 78 = .ok (.getfield 10, 3) := by decide +kernel
theorem dX6_setWay_81 : decode cX6_setWay 81 = .ok (.getfield 23, 3) := by decide +kernel
theorem dX6_setWay_84 : decode cX6_setWay 84 = .ok (.iload_n 2, 1) := by decide +kernel
theorem dX6_setWay_85 : decode cX6_setWay 85 = .ok (.putfield 39, 3) := by decide +kernel
theorem dX6_setWay_88 : decode cX6_setWay 88 = .ok (.aload_n 0, 1) := by decide +kernel
theorem dX6_setWay_89 : decode cX6_setWay 89 = .ok (.getfield 10, 3) := by decide +kernel
theorem dX6_setWay_92 : decode cX6_setWay 92 = .ok (.getfield 23, 3) := by decide +kernel
theorem dX6_setWay_95 : decode cX6_setWay 95 = .ok (.iload_n 3, 1) := by decide +kernel
theorem dX6_setWay_96 : decode cX6_setWay 96 = .ok (.putfield 42, 3) := by decide +kernel
theorem dX6_setWay_99 : decode cX6_setWay 99 = .ok (.iload 4, 2) := by decide +kernel
theorem dX6_setWay_101 : decode cX6_setWay 101 = .ok (.ireturn, 1) := by decide +kernel
theorem dX6_setQuota_0 : decode cX6_setQuota 0 = .ok (.aload_n 0, 1) := by decide +kernel
theorem dX6_setQuota_1 : decode cX6_setQuota 1 = .ok (.getfield 10, 3) := by decide +kernel
theorem dX6_setQuota_4 : decode cX6_setQuota 4 = .ok (.getfield 23, 3) := by decide +kernel
theorem dX6_setQuota_7 : decode cX6_setQuota 7 = .ok (.getfield 45, 3) := by decide +kernel
theorem dX6_setQuota_10 : decode cX6_setQuota 10 = .ok (.astore_n 3, 1) := by decide +kernel
theorem dX6_setQuota_11 : decode cX6_setQuota 11 = .ok (.iload_n 1, 1) := by decide +kernel
theorem dX6_setQuota_12 : decode cX6_setQuota 12 = .ok (.ifCond .lt 9, 3) := by decide +kernel
theorem dX6_setQuota_15 : decode cX6_setQuota 15 = .ok (.iload_n 1, 1) := by decide +kernel
theorem dX6_setQuota_16 : decode cX6_setQuota 16 = .ok (.aload_n 3, 1) := by decide +kernel
theorem dX6_setQuota_17 : decode cX6_setQuota 17 = .ok (.arraylength, 1) := by decide +kernel
theorem dX6_setQuota_18 : decode cX6_setQuota 18 = .ok (.if_icmp .lt 13, 3) := by decide +kernel
theorem dX6_setQuota_21 : decode cX6_setQuota 21 = .ok (.new 49, 3) := by decide +kernel
theorem dX6_setQuota_24 : decode cX6_setQuota 24 = .ok (.dup, 1) := by decide +kernel
theorem dX6_setQuota_25 : decode cX6_setQuota 25 = .ok (.ldc 51, 2) := by decide +kernel
theorem dX6_setQuota_27 : decode cX6_setQuota 27 = .ok (.invokespecial 53, 3) := by decide +kernel
theorem dX6_setQuota_30 : decode cX6_setQuota 30 = .ok (.athrow, 1) := by decide +kernel
theorem dX6_setQuota_31 : decode cX6_setQuota 31 = .ok (.iload_n 2, 1) := by decide +kernel
theorem dX6_setQuota_32 : decode cX6_setQuota 32 = .ok (.ifCond .lt 13, 3) := by decide +kernel
theorem dX6_setQuota_35 : decode cX6_setQuota 35 = .ok (.iload_n 2, 1) := by decide +kernel
theorem dX6_setQuota_36 : decode cX6_setQuota 36 = .ok (.bipush 50, 2) := by decide +kernel
theorem dX6_setQuota_38 : decode cX6_setQuota 38 = .ok (.if_icmp .gt 7, 3) := by decide +kernel
theorem dX6_setQuota_41 : decode cX6_setQuota 41 = .ok (.iconst 1, 1) := by decide +kernel
theorem dX6_setQuota_42 : decode cX6_setQuota 42 = .ok (.goto 4, 3) := by decide +kernel
theorem dX6_setQuota_45 : decode cX6_setQuota 45 = .ok (.iconst 0, 1) := by decide +kernel
theorem dX6_setQuota_46 : decode cX6_setQuota 46 = .ok (.invokestatic 19, 3) := by decide +kernel
theorem dX6_setQuota_49 : decode cX6_setQuota 49 = .ok (.aload_n 3, 1) := by decide +kernel
theorem dX6_setQuota_50 : decode cX6_setQuota 50 = .ok (.iload_n 1, 1) := by decide +kernel
theorem dX6_setQuota_51 : decode cX6_setQuota 51 = .ok (.iaload, 1) := by decide +kernel
theorem dX6_setQuota_52 : decode cX6_setQuota 52 = .ok (.istore 4, 2) := by decide +kernel
theorem dX6_setQuota_54 : decode cX6_setQuota 54 = .ok (.aload_n 3, 1) := by decide +kernel
theorem dX6_setQuota_55 : decode cX6_setQuota 55 = .ok (.iload_n 1, 1) := by decide +kernel
theorem dX6_setQuota_56 : decode cX6_setQuota 56 = .ok (.iload_n 2, 1) := by decide +kernel
theorem dX6_setQuota_57 : decode cX6_setQuota 57 = .ok (.iastore, 1) := by decide +kernel
theorem dX6_setQuota_58 : decode cX6_setQuota 58 = .ok (.iload 4, 2) := by decide +kernel
theorem dX6_setQuota_60 : decode cX6_setQuota 60 = .ok (.ireturn, 1) := by decide +kernel
theorem dX6_setPeriod_0 : decode cX6_setPeriod 0 = .ok (.iload_n 1, 1) := by decide +kernel
theorem dX6_setPeriod_1 : decode cX6_setPeriod 1 = .ok (.iconst 1, 1) := by decide +kernel
theorem dX6_setPeriod_2 : decode cX6_setPeriod 2 = .ok (.if_icmp .lt 13, 3) := by decide +kernel
theorem dX6_setPeriod_5 : decode cX6_setPeriod 5 = .ok (.iload_n 1, 1) := by decide +kernel
theorem dX6_setPeriod_6 : decode cX6_setPeriod 6 = .ok (.bipush 50, 2) := by decide +kernel
theorem dX6_setPeriod_8 : decode cX6_setPeriod 8 = .ok (.if_icmp .gt 7, 3) := by decide +kernel
theorem dX6_setPeriod_11 : decode cX6_setPeriod 11 = .ok (.iconst 1, 1) := by decide +kernel
theorem dX6_setPeriod_12 : decode cX6_setPeriod 12 = .ok (.goto 4, 3) := by decide +kernel
theorem dX6_setPeriod_15 : decode cX6_setPeriod 15 = .ok (.iconst 0, 1) := by decide +kernel
theorem dX6_setPeriod_16 : decode cX6_setPeriod 16 = .ok (.invokestatic 19, 3) := by decide +kernel
theorem dX6_setPeriod_19 : decode cX6_setPeriod 19 = .ok (.aload_n 0, 1) := by decide +kernel
theorem dX6_setPeriod_20 : decode cX6_setPeriod 20 = .ok (.getfield 10, 3) := by decide +kernel
theorem dX6_setPeriod_23 : decode cX6_setPeriod 23 = .ok (.getfield 23, 3) := by decide +kernel
theorem dX6_setPeriod_26 : decode cX6_setPeriod 26 = .ok (.getfield 56, 3) := by decide +kernel
theorem dX6_setPeriod_29 : decode cX6_setPeriod 29 = .ok (.istore_n 2, 1) := by decide +kernel
theorem dX6_setPeriod_30 : decode cX6_setPeriod 30 = .ok (.aload_n 0, 1) := by decide +kernel
theorem dX6_setPeriod_31 : decode cX6_setPeriod 31 = .ok (.getfield 10, 3) := by decide +kernel
theorem dX6_setPeriod_34 : decode cX6_setPeriod 34 = .ok (.getfield 23, 3) := by decide +kernel
theorem dX6_setPeriod_37 : decode cX6_setPeriod 37 = .ok (.iload_n 1, 1) := by decide +kernel
theorem dX6_setPeriod_38 : decode cX6_setPeriod 38 = .ok (.putfield 56, 3) := by decide +kernel
theorem dX6_setPeriod_41 : decode cX6_setPeriod 41 = .ok (.iload_n 2, 1) := by decide +kernel
theorem dX6_setPeriod_42 : decode cX6_setPeriod 42 = .ok (.ireturn, 1) := by decide +kernel
theorem dX6_addTask_0 : decode cX6_addTask 0 = .ok (.iload_n 1, 1) := by decide +kernel
theorem dX6_addTask_1 : decode cX6_addTask 1 = .ok (.ifCond .lt 13, 3) := by decide +kernel
theorem dX6_addTask_4 : decode cX6_addTask 4 = .ok (.iload_n 1, 1) := by decide +kernel
theorem dX6_addTask_5 : decode cX6_addTask 5 = .ok (.bipush 8, 2) := by decide +kernel
theorem dX6_addTask_7 : decode cX6_addTask 7 = .ok (.if_icmp .ge 7, 3) := by decide +kernel
theorem dX6_addTask_10 : decode cX6_addTask 10 = .ok (.iconst 1, 1) := by decide +kernel
theorem dX6_addTask_11 : decode cX6_addTask 11 = .ok (.goto 4, 3) := by decide +kernel
theorem dX6_addTask_14 : decode cX6_addTask 14 = .ok (.iconst 0, 1) := by decide +kernel
theorem dX6_addTask_15 : decode cX6_addTask 15 = .ok (.invokestatic 19, 3) := by decide +kernel
theorem dX6_addTask_18 : decode cX6_addTask 18 = .ok (.iload_n 2, 1) := by decide +kernel
theorem dX6_addTask_19 : decode cX6_addTask 19 = .ok (.ifCond .lt 12, 3) := by decide +kernel
theorem dX6_addTask_22 : decode cX6_addTask 22 = .ok (.iload_n 2, 1) := by decide +kernel
theorem dX6_addTask_23 : decode cX6_addTask 23 = .ok (.iconst 4, 1) := by decide +kernel
theorem dX6_addTask_24 : decode cX6_addTask 24 = .ok (.if_icmp .ge 7, 3) := by decide +kernel
theorem dX6_addTask_27 : decode cX6_addTask 27 = .ok (.iconst 1, 1) := by decide +kernel
theorem dX6_addTask_28 : decode cX6_addTask 28 = .ok (.goto 4, 3) := by decide +kernel
theorem dX6_addTask_31 : decode cX6_addTask 31 = .ok (.iconst 0, 1) := by decide +kernel
theorem dX6_addTask_32 : decode cX6_addTask 32 = .ok (.invokestatic 19, 3) := by decide +kernel
theorem dX6_addTask_35 : decode cX6_addTask 35 = .ok (.iload_n 3, 1) := by decide +kernel
theorem dX6_addTask_36 : decode cX6_addTask 36 = .ok (.iconst 1, 1) := by decide +kernel
theorem dX6_addTask_37 : decode cX6_addTask 37 = .ok (.if_icmp .lt 12, 3) := by decide +kernel
theorem dX6_addTask_40 : decode cX6_addTask 40 = .ok (.iload_n 3, 1) := by decide +kernel
theorem dX6_addTask_41 : decode cX6_addTask 41 = .ok (.iconst 5, 1) := by decide +kernel
theorem dX6_addTask_42 : decode cX6_addTask 42 = .ok (.if_icmp .gt 7, 3) := by decide +kernel
theorem dX6_addTask_45 : decode cX6_addTask 45 = .ok (.iconst 1, 1) := by decide +kernel
theorem dX6_addTask_46 : decode cX6_addTask 46 = .ok (.goto 4, 3) := by decide +kernel
theorem dX6_addTask_49 : decode cX6_addTask 49 = .ok (.iconst 0, 1) := by decide +kernel
theorem dX6_addTask_50 : decode cX6_addTask 50 = .ok (.invokestatic 19, 3) := by decide +kernel
theorem dX6_addTask_53 : decode cX6_addTask 53 = .ok (.aload_n 0, 1) := by decide +kernel
theorem dX6_addTask_54 : decode cX6_addTask 54 = .ok (.getfield 10, 3) := by decide +kernel
theorem dX6_addTask_57 : decode cX6_addTask 57 = .ok (.getfield 59, 3) := by decide +kernel
theorem dX6_addTask_60 : decode cX6_addTask 60 = .ok (.istore 4, 2) := by decide +kernel
theorem dX6_addTask_62 : decode cX6_addTask 62 = .ok (.aload_n 0, 1) := by decide +kernel
theorem dX6_addTask_63 : decode cX6_addTask 63 = .ok (.getfield 10, 3) := by decide +kernel
theorem dX6_addTask_66 : decode cX6_addTask 66 = .ok (.iload 4, 2) := by decide +kernel
theorem dX6_addTask_68 : decode cX6_addTask 68 = .ok (.invokevirtual 62, 3) := by decide +kernel
theorem dX6_addTask_71 : decode cX6_addTask 71 = .ok (.astore 5, 2) := by decide +kernel
theorem dX6_addTask_73 : decode cX6_addTask 73 = .ok (.aload 5, 2) := by decide +kernel
theorem dX6_addTask_75 : decode cX6_addTask 75 = .ok (.ifnonnull 13, 3) := by decide +kernel
theorem dX6_addTask_78 : decode cX6_addTask 78 = .ok (.new 66, 3) := by decide +kernel
theorem dX6_addTask_81 : decode cX6_addTask 81 = .ok (.dup, 1) := by decide +kernel
theorem dX6_addTask_82 : decode cX6_addTask 82 = .ok (.ldc 68, 2) := by decide +kernel
theorem dX6_addTask_84 : decode cX6_addTask 84 = .ok (.invokespecial 70, 3) := by decide +kernel
theorem dX6_addTask_87 : decode cX6_addTask 87 = .ok (.athrow, 1) := by decide +kernel
theorem dX6_addTask_88 : decode cX6_addTask 88 = .ok (.aload 5, 2) := by decide +kernel
theorem dX6_addTask_90 : decode cX6_addTask 90 = .ok (.iload_n 1, 1) := by decide +kernel
theorem dX6_addTask_91 : decode cX6_addTask 91 = .ok (.putfield 71, 3) := by decide +kernel
theorem dX6_addTask_94 : decode cX6_addTask 94 = .ok (.aload 5, 2) := by decide +kernel
theorem dX6_addTask_96 : decode cX6_addTask 96 = .ok (.iload_n 2, 1) := by decide +kernel
theorem dX6_addTask_97 : decode cX6_addTask 97 = .ok (.putfield 76, 3) := by decide +kernel
theorem dX6_addTask_100 : decode cX6_addTask 100 = .ok (.aload 5, 2) := by decide +kernel
theorem dX6_addTask_102 : decode cX6_addTask 102 = .ok (.getfield 79, 3) := by decide +kernel
theorem dX6_addTask_105 : decode cX6_addTask 105 = .ok (.iload_n 3, 1) := by decide +kernel
theorem dX6_addTask_106 : decode cX6_addTask 106 = .ok (.putfield 83, 3) := by decide +kernel
theorem dX6_addTask_109 : decode cX6_addTask 109 = .ok (.aload_n 0, 1) := by decide +kernel
theorem dX6_addTask_110 : decode cX6_addTask 110 = .ok (.getfield 10, 3) := by decide +kernel
theorem dX6_addTask_113 : decode cX6_addTask 113 = .ok (.iload 4, 2) := by decide +kernel
theorem dX6_addTask_115 : decode cX6_addTask 115 = .ok (.iconst 1, 1) := by decide +kernel
theorem dX6_addTask_116 : decode cX6_addTask 116 = .ok (.iadd, 1) := by decide +kernel
theorem dX6_addTask_117 : decode cX6_addTask 117 = .ok (.putfield 59, 3) := by decide +kernel
theorem dX6_addTask_120 : decode cX6_addTask 120 = .ok (.iload 4, 2) := by decide +kernel
theorem dX6_addTask_122 : decode cX6_addTask 122 = .ok (.ireturn, 1) := by decide +kernel
theorem dX6_addStep_0 : decode cX6_addStep 0 = .ok (.aload_n 0, 1) := by decide +kernel
theorem dX6_addStep_1 : decode cX6_addStep 1 = .ok (.iload_n 1, 1) := by decide +kernel
theorem dX6_addStep_2 : decode cX6_addStep 2 = .ok (.invokevirtual 88, 3) := by decide +kernel
theorem dX6_addStep_5 : decode cX6_addStep 5 = .ok (.astore 4, 2) := by decide +kernel
theorem dX6_addStep_7 : decode cX6_addStep 7 = .ok (.iload_n 2, 1) := by decide +kernel
theorem dX6_addStep_8 : decode cX6_addStep 8 = .ok (.iload_n 3, 1) := by decide +kernel
theorem dX6_addStep_9 : decode cX6_addStep 9 = .ok (.invokestatic 91, 3) := by decide +kernel
theorem dX6_addStep_12 : decode cX6_addStep 12 = .ok (.invokestatic 19, 3) := by decide +kernel
theorem dX6_addStep_15 : decode cX6_addStep 15 = .ok (.aload 4, 2) := by decide +kernel
theorem dX6_addStep_17 : decode cX6_addStep 17 = .ok (.getfield 79, 3) := by decide +kernel
theorem dX6_addStep_20 : decode cX6_addStep 20 = .ok (.astore 5, 2) := by decide +kernel
theorem dX6_addStep_22 : decode cX6_addStep 22 = .ok (.aload 4, 2) := by decide +kernel
theorem dX6_addStep_24 : decode cX6_addStep 24 = .ok (.getfield 95, 3) := by decide +kernel
theorem dX6_addStep_27 : decode cX6_addStep 27 = .ok (.ifCond .ne 17, 3) := by decide +kernel
theorem dX6_addStep_30 : decode cX6_addStep 30 = .ok (.aload 5, 2) := by decide +kernel
theorem dX6_addStep_32 : decode cX6_addStep 32 = .ok (.getfield 98, 3) := by decide +kernel
theorem dX6_addStep_35 : decode cX6_addStep 35 = .ok (.bipush 16, 2) := by decide +kernel
theorem dX6_addStep_37 : decode cX6_addStep 37 = .ok (.if_icmp .ge 7, 3) := by decide +kernel
theorem dX6_addStep_40 : decode cX6_addStep 40 = .ok (.iconst 1, 1) := by decide +kernel
theorem dX6_addStep_41 : decode cX6_addStep 41 = .ok (.goto 4, 3) := by decide +kernel
theorem dX6_addStep_44 : decode cX6_addStep 44 = .ok (.iconst 0, 1) := by decide +kernel
theorem dX6_addStep_45 : decode cX6_addStep 45 = .ok (.invokestatic 101, 3) := by decide +kernel
theorem dX6_addStep_48 : decode cX6_addStep 48 = .ok (.aload 5, 2) := by decide +kernel
theorem dX6_addStep_50 : decode cX6_addStep 50 = .ok (.iload_n 2, 1) := by decide +kernel
theorem dX6_addStep_51 : decode cX6_addStep 51 = .ok (.iload_n 3, 1) := by decide +kernel
theorem dX6_addStep_52 : decode cX6_addStep 52 = .ok (.invokevirtual 104, 3) := by decide +kernel
theorem dX6_addStep_55 : decode cX6_addStep 55 = .ok (.aload 5, 2) := by decide +kernel
theorem dX6_addStep_57 : decode cX6_addStep 57 = .ok (.getfield 98, 3) := by decide +kernel
theorem dX6_addStep_60 : decode cX6_addStep 60 = .ok (.ireturn, 1) := by decide +kernel
theorem dX6_start_0 : decode cX6_start 0 = .ok (.aload_n 0, 1) := by decide +kernel
theorem dX6_start_1 : decode cX6_start 1 = .ok (.iload_n 1, 1) := by decide +kernel
theorem dX6_start_2 : decode cX6_start 2 = .ok (.invokevirtual 88, 3) := by decide +kernel
theorem dX6_start_5 : decode cX6_start 5 = .ok (.astore_n 2, 1) := by decide +kernel
theorem dX6_start_6 : decode cX6_start 6 = .ok (.aload_n 2, 1) := by decide +kernel
theorem dX6_start_7 : decode cX6_start 7 = .ok (.getfield 95, 3) := by decide +kernel
theorem dX6_start_10 : decode cX6_start 10 = .ok (.ifCond .ne 17, 3) := by decide +kernel
theorem dX6_start_13 : decode cX6_start 13 = .ok (.aload_n 2, 1) := by decide +kernel
theorem dX6_start_14 : decode cX6_start 14 = .ok (.getfield 79, 3) := by decide +kernel
theorem dX6_start_17 : decode cX6_start 17 = .ok (.invokevirtual 108, 3) := by decide +kernel
theorem dX6_start_20 : decode cX6_start 20 = .ok (.ifCond .eq 7, 3) := by decide +kernel
theorem dX6_start_23 : decode cX6_start 23 = .ok (.iconst 1, 1) := by decide +kernel
theorem dX6_start_24 : decode cX6_start 24 = .ok (.goto 4, 3) := by decide +kernel
theorem dX6_start_27 : decode cX6_start 27 = .ok (.iconst 0, 1) := by decide +kernel
theorem dX6_start_28 : decode cX6_start 28 = .ok (.invokestatic 101, 3) := by decide +kernel
theorem dX6_start_31 : decode cX6_start 31 = .ok (.aload_n 0, 1) := by decide +kernel
theorem dX6_start_32 : decode cX6_start 32 = .ok (.getfield 10, 3) := by decide +kernel
theorem dX6_start_35 : decode cX6_start 35 = .ok (.aload_n 2, 1) := by decide +kernel
theorem dX6_start_36 : decode cX6_start 36 = .ok (.invokevirtual 112, 3) := by decide +kernel
theorem dX6_start_39 : decode cX6_start 39 = .ok (.aload_n 2, 1) := by decide +kernel
theorem dX6_start_40 : decode cX6_start 40 = .ok (.getfield 116, 3) := by decide +kernel
theorem dX6_start_43 : decode cX6_start 43 = .ok (.ireturn, 1) := by decide +kernel
theorem dX6_setRank_0 : decode cX6_setRank 0 = .ok (.aload_n 0, 1) := by decide +kernel
theorem dX6_setRank_1 : decode cX6_setRank 1 = .ok (.iload_n 1, 1) := by decide +kernel
theorem dX6_setRank_2 : decode cX6_setRank 2 = .ok (.invokevirtual 88, 3) := by decide +kernel
theorem dX6_setRank_5 : decode cX6_setRank 5 = .ok (.astore_n 3, 1) := by decide +kernel
theorem dX6_setRank_6 : decode cX6_setRank 6 = .ok (.iload_n 2, 1) := by decide +kernel
theorem dX6_setRank_7 : decode cX6_setRank 7 = .ok (.ifCond .lt 13, 3) := by decide +kernel
theorem dX6_setRank_10 : decode cX6_setRank 10 = .ok (.iload_n 2, 1) := by decide +kernel
theorem dX6_setRank_11 : decode cX6_setRank 11 = .ok (.bipush 8, 2) := by decide +kernel
theorem dX6_setRank_13 : decode cX6_setRank 13 = .ok (.if_icmp .ge 7, 3) := by decide +kernel
theorem dX6_setRank_16 : decode cX6_setRank 16 = .ok (.iconst 1, 1) := by decide +kernel
theorem dX6_setRank_17 : decode cX6_setRank 17 = .ok (.goto 4, 3) := by decide +kernel
theorem dX6_setRank_20 : decode cX6_setRank 20 = .ok (.iconst 0, 1) := by decide +kernel
theorem dX6_setRank_21 : decode cX6_setRank 21 = .ok (.invokestatic 19, 3) := by decide +kernel
theorem dX6_setRank_24 : decode cX6_setRank 24 = .ok (.aload_n 3, 1) := by decide +kernel
theorem dX6_setRank_25 : decode cX6_setRank 25 = .ok (.getfield 71, 3) := by decide +kernel
theorem dX6_setRank_28 : decode cX6_setRank 28 = .ok (.istore 4, 2) := by decide +kernel
theorem dX6_setRank_30 : decode cX6_setRank 30 = .ok (.aload_n 3, 1) := by decide +kernel
theorem dX6_setRank_31 : decode cX6_setRank 31 = .ok (.iload_n 2, 1) := by decide +kernel
theorem dX6_setRank_32 : decode cX6_setRank 32 = .ok (.putfield 71, 3) := by decide +kernel
theorem dX6_setRank_35 : decode cX6_setRank 35 = .ok (.iload 4, 2) := by decide +kernel
theorem dX6_setRank_37 : decode cX6_setRank 37 = .ok (.ireturn, 1) := by decide +kernel
theorem dX6_end_0 : decode cX6_end 0 = .ok (.aload_n 0, 1) := by decide +kernel
theorem dX6_end_1 : decode cX6_end 1 = .ok (.iload_n 1, 1) := by decide +kernel
theorem dX6_end_2 : decode cX6_end 2 = .ok (.invokevirtual 88, 3) := by decide +kernel
theorem dX6_end_5 : decode cX6_end 5 = .ok (.astore_n 2, 1) := by decide +kernel
theorem dX6_end_6 : decode cX6_end 6 = .ok (.aload_n 2, 1) := by decide +kernel
theorem dX6_end_7 : decode cX6_end 7 = .ok (.getfield 95, 3) := by decide +kernel
theorem dX6_end_10 : decode cX6_end 10 = .ok (.bipush 6, 2) := by decide +kernel
theorem dX6_end_12 : decode cX6_end 12 = .ok (.if_icmp .eq 7, 3) := by decide +kernel
theorem dX6_end_15 : decode cX6_end 15 = .ok (.iconst 1, 1) := by decide +kernel
theorem dX6_end_16 : decode cX6_end 16 = .ok (.goto 4, 3) := by decide +kernel
theorem dX6_end_19 : decode cX6_end 19 = .ok (.iconst 0, 1) := by decide +kernel
theorem dX6_end_20 : decode cX6_end 20 = .ok (.invokestatic 101, 3) := by decide +kernel
theorem dX6_end_23 : decode cX6_end 23 = .ok (.aload_n 2, 1) := by decide +kernel
theorem dX6_end_24 : decode cX6_end 24 = .ok (.getfield 95, 3) := by decide +kernel
theorem dX6_end_27 : decode cX6_end 27 = .ok (.istore_n 3, 1) := by decide +kernel
theorem dX6_end_28 : decode cX6_end 28 = .ok (.aload_n 0, 1) := by decide +kernel
theorem dX6_end_29 : decode cX6_end 29 = .ok (.getfield 10, 3) := by decide +kernel
theorem dX6_end_32 : decode cX6_end 32 = .ok (.aload_n 2, 1) := by decide +kernel
theorem dX6_end_33 : decode cX6_end 33 = .ok (.invokevirtual 119, 3) := by decide +kernel
theorem dX6_end_36 : decode cX6_end 36 = .ok (.iload_n 3, 1) := by decide +kernel
theorem dX6_end_37 : decode cX6_end 37 = .ok (.ireturn, 1) := by decide +kernel
theorem dX6_signal_0 : decode cX6_signal 0 = .ok (.iload_n 1, 1) := by decide +kernel
theorem dX6_signal_1 : decode cX6_signal 1 = .ok (.invokestatic 122, 3) := by decide +kernel
theorem dX6_signal_4 : decode cX6_signal 4 = .ok (.aload_n 0, 1) := by decide +kernel
theorem dX6_signal_5 : decode cX6_signal 5 = .ok (.getfield 10, 3) := by decide +kernel
theorem dX6_signal_8 : decode cX6_signal 8 = .ok (.iload_n 1, 1) := by decide +kernel
theorem dX6_signal_9 : decode cX6_signal 9 = .ok (.invokevirtual 126, 3) := by decide +kernel
theorem dX6_signal_12 : decode cX6_signal 12 = .ok (.aload_n 0, 1) := by decide +kernel
theorem dX6_signal_13 : decode cX6_signal 13 = .ok (.getfield 10, 3) := by decide +kernel
theorem dX6_signal_16 : decode cX6_signal 16 = .ok (.iload_n 1, 1) := by decide +kernel
theorem dX6_signal_17 : decode cX6_signal 17 = .ok (.invokevirtual 129, 3) := by decide +kernel
theorem dX6_signal_20 : decode cX6_signal 20 = .ok (.ireturn, 1) := by decide +kernel
theorem dX6_tick_0 : decode cX6_tick 0 = .ok (.iload_n 1, 1) := by decide +kernel
theorem dX6_tick_1 : decode cX6_tick 1 = .ok (.iconst 1, 1) := by decide +kernel
theorem dX6_tick_2 : decode cX6_tick 2 = .ok (.if_icmp .lt 13, 3) := by decide +kernel
theorem dX6_tick_5 : decode cX6_tick 5 = .ok (.iload_n 1, 1) := by decide +kernel
theorem dX6_tick_6 : decode cX6_tick 6 = .ok (.bipush 40, 2) := by decide +kernel
theorem dX6_tick_8 : decode cX6_tick 8 = .ok (.if_icmp .gt 7, 3) := by decide +kernel
theorem dX6_tick_11 : decode cX6_tick 11 = .ok (.iconst 1, 1) := by decide +kernel
theorem dX6_tick_12 : decode cX6_tick 12 = .ok (.goto 4, 3) := by decide +kernel
theorem dX6_tick_15 : decode cX6_tick 15 = .ok (.iconst 0, 1) := by decide +kernel
theorem dX6_tick_16 : decode cX6_tick 16 = .ok (.invokestatic 19, 3) := by decide +kernel
theorem dX6_tick_19 : decode cX6_tick 19 = .ok (.iconst 0, 1) := by decide +kernel
theorem dX6_tick_20 : decode cX6_tick 20 = .ok (.istore_n 2, 1) := by decide +kernel
theorem dX6_tick_21 : decode cX6_tick 21 = .ok (.iload_n 2, 1) := by decide +kernel
theorem dX6_tick_22 : decode cX6_tick 22 = .ok (.iload_n 1, 1) := by decide +kernel
theorem dX6_tick_23 : decode cX6_tick 23 = .ok (.if_icmp .ge 16, 3) := by decide +kernel
theorem dX6_tick_26 : decode cX6_tick 26 = .ok (.aload_n 0, 1) := by decide +kernel
theorem dX6_tick_27 : decode cX6_tick 27 = .ok (.getfield 10, 3) := by decide +kernel
theorem dX6_tick_30 : decode cX6_tick 30 = .ok (.invokevirtual 133, 3) := by decide +kernel
theorem dX6_tick_33 : decode cX6_tick 33 = .ok (.iinc 2 1, 3) := by decide +kernel
theorem dX6_tick_36 : decode cX6_tick 36 = .ok (.goto (-15), 3) := by decide +kernel
theorem dX6_tick_39 : decode cX6_tick 39 = .ok (.aload_n 0, 1) := by decide +kernel
theorem dX6_tick_40 : decode cX6_tick 40 = .ok (.getfield 10, 3) := by decide +kernel
theorem dX6_tick_43 : decode cX6_tick 43 = .ok (.getfield 136, 3) := by decide +kernel
theorem dX6_tick_46 : decode cX6_tick 46 = .ok (.ireturn, 1) := by decide +kernel
theorem dX6_clock_0 : decode cX6_clock 0 = .ok (.aload_n 0, 1) := by decide +kernel
theorem dX6_clock_1 : decode cX6_clock 1 = .ok (.getfield 10, 3) := by decide +kernel
theorem dX6_clock_4 : decode cX6_clock 4 = .ok (.getfield 136, 3) := by decide +kernel
theorem dX6_clock_7 : decode cX6_clock 7 = .ok (.ireturn, 1) := by decide +kernel
theorem dX6_tasks_0 : decode cX6_tasks 0 = .ok (.aload_n 0, 1) := by decide +kernel
theorem dX6_tasks_1 : decode cX6_tasks 1 = .ok (.getfield 10, 3) := by decide +kernel
theorem dX6_tasks_4 : decode cX6_tasks 4 = .ok (.getfield 59, 3) := by decide +kernel
theorem dX6_tasks_7 : decode cX6_tasks 7 = .ok (.ireturn, 1) := by decide +kernel
theorem dX6_stateOf_0 : decode cX6_stateOf 0 = .ok (.aload_n 0, 1) := by decide +kernel
theorem dX6_stateOf_1 : decode cX6_stateOf 1 = .ok (.iload_n 1, 1) := by decide +kernel
theorem dX6_stateOf_2 : decode cX6_stateOf 2 = .ok (.invokevirtual 88, 3) := by decide +kernel
theorem dX6_stateOf_5 : decode cX6_stateOf 5 = .ok (.getfield 95, 3) := by decide +kernel
theorem dX6_stateOf_8 : decode cX6_stateOf 8 = .ok (.ireturn, 1) := by decide +kernel
theorem dX6_stepOf_0 : decode cX6_stepOf 0 = .ok (.aload_n 0, 1) := by decide +kernel
theorem dX6_stepOf_1 : decode cX6_stepOf 1 = .ok (.iload_n 1, 1) := by decide +kernel
theorem dX6_stepOf_2 : decode cX6_stepOf 2 = .ok (.invokevirtual 88, 3) := by decide +kernel
theorem dX6_stepOf_5 : decode cX6_stepOf 5 = .ok (.astore_n 2, 1) := by decide +kernel
theorem dX6_stepOf_6 : decode cX6_stepOf 6 = .ok (.aload_n 2, 1) := by decide +kernel
theorem dX6_stepOf_7 : decode cX6_stepOf 7 = .ok (.getfield 95, 3) := by decide +kernel
theorem dX6_stepOf_10 : decode cX6_stepOf 10 = .ok (.bipush 6, 2) := by decide +kernel
theorem dX6_stepOf_12 : decode cX6_stepOf 12 = .ok (.if_icmp .ne 13, 3) := by decide +kernel
theorem dX6_stepOf_15 : decode cX6_stepOf 15 = .ok (.aload_n 2, 1) := by decide +kernel
theorem dX6_stepOf_16 : decode cX6_stepOf 16 = .ok (.getfield 79, 3) := by decide +kernel
theorem dX6_stepOf_19 : decode cX6_stepOf 19 = .ok (.getfield 98, 3) := by decide +kernel
theorem dX6_stepOf_22 : decode cX6_stepOf 22 = .ok (.goto 7, 3) := by decide +kernel
theorem dX6_stepOf_25 : decode cX6_stepOf 25 = .ok (.aload_n 2, 1) := by decide +kernel
theorem dX6_stepOf_26 : decode cX6_stepOf 26 = .ok (.getfield 139, 3) := by decide +kernel
theorem dX6_stepOf_29 : decode cX6_stepOf 29 = .ok (.ireturn, 1) := by decide +kernel
theorem dX6_roundsOf_0 : decode cX6_roundsOf 0 = .ok (.aload_n 0, 1) := by decide +kernel
theorem dX6_roundsOf_1 : decode cX6_roundsOf 1 = .ok (.iload_n 1, 1) := by decide +kernel
theorem dX6_roundsOf_2 : decode cX6_roundsOf 2 = .ok (.invokevirtual 88, 3) := by decide +kernel
theorem dX6_roundsOf_5 : decode cX6_roundsOf 5 = .ok (.getfield 142, 3) := by decide +kernel
theorem dX6_roundsOf_8 : decode cX6_roundsOf 8 = .ok (.ireturn, 1) := by decide +kernel
theorem dX6_keyOf_0 : decode cX6_keyOf 0 = .ok (.aload_n 0, 1) := by decide +kernel
theorem dX6_keyOf_1 : decode cX6_keyOf 1 = .ok (.iload_n 1, 1) := by decide +kernel
theorem dX6_keyOf_2 : decode cX6_keyOf 2 = .ok (.invokevirtual 88, 3) := by decide +kernel
theorem dX6_keyOf_5 : decode cX6_keyOf 5 = .ok (.aload_n 0, 1) := by decide +kernel
theorem dX6_keyOf_6 : decode cX6_keyOf 6 = .ok (.getfield 10, 3) := by decide +kernel
theorem dX6_keyOf_9 : decode cX6_keyOf 9 = .ok (.getfield 23, 3) := by decide +kernel
theorem dX6_keyOf_12 : decode cX6_keyOf 12 = .ok (.getfield 36, 3) := by decide +kernel
theorem dX6_keyOf_15 : decode cX6_keyOf 15 = .ok (.invokevirtual 145, 3) := by decide +kernel
theorem dX6_keyOf_18 : decode cX6_keyOf 18 = .ok (.ireturn, 1) := by decide +kernel
theorem dX6_lentKey_0 : decode cX6_lentKey 0 = .ok (.aload_n 0, 1) := by decide +kernel
theorem dX6_lentKey_1 : decode cX6_lentKey 1 = .ok (.iload_n 1, 1) := by decide +kernel
theorem dX6_lentKey_2 : decode cX6_lentKey 2 = .ok (.invokevirtual 88, 3) := by decide +kernel
theorem dX6_lentKey_5 : decode cX6_lentKey 5 = .ok (.astore_n 2, 1) := by decide +kernel
theorem dX6_lentKey_6 : decode cX6_lentKey 6 = .ok (.aload_n 0, 1) := by decide +kernel
theorem dX6_lentKey_7 : decode cX6_lentKey 7 = .ok (.getfield 10, 3) := by decide +kernel
theorem dX6_lentKey_10 : decode cX6_lentKey 10 = .ok (.invokevirtual 148, 3) := by decide +kernel
theorem dX6_lentKey_13 : decode cX6_lentKey 13 = .ok (.aload_n 2, 1) := by decide +kernel
theorem dX6_lentKey_14 : decode cX6_lentKey 14 = .ok (.getfield 151, 3) := by decide +kernel
theorem dX6_lentKey_17 : decode cX6_lentKey 17 = .ok (.ireturn, 1) := by decide +kernel
theorem dX6_standOf_0 : decode cX6_standOf 0 = .ok (.aload_n 0, 1) := by decide +kernel
theorem dX6_standOf_1 : decode cX6_standOf 1 = .ok (.iload_n 1, 1) := by decide +kernel
theorem dX6_standOf_2 : decode cX6_standOf 2 = .ok (.invokevirtual 88, 3) := by decide +kernel
theorem dX6_standOf_5 : decode cX6_standOf 5 = .ok (.getfield 116, 3) := by decide +kernel
theorem dX6_standOf_8 : decode cX6_standOf 8 = .ok (.ireturn, 1) := by decide +kernel
theorem dX6_levelOf_0 : decode cX6_levelOf 0 = .ok (.aload_n 0, 1) := by decide +kernel
theorem dX6_levelOf_1 : decode cX6_levelOf 1 = .ok (.iload_n 1, 1) := by decide +kernel
theorem dX6_levelOf_2 : decode cX6_levelOf 2 = .ok (.invokevirtual 88, 3) := by decide +kernel
theorem dX6_levelOf_5 : decode cX6_levelOf 5 = .ok (.getfield 154, 3) := by decide +kernel
theorem dX6_levelOf_8 : decode cX6_levelOf 8 = .ok (.ireturn, 1) := by decide +kernel
theorem dX6_told_0 : decode cX6_told 0 = .ok (.aload_n 0, 1) := by decide +kernel
theorem dX6_told_1 : decode cX6_told 1 = .ok (.iload_n 1, 1) := by decide +kernel
theorem dX6_told_2 : decode cX6_told 2 = .ok (.invokevirtual 88, 3) := by decide +kernel
theorem dX6_told_5 : decode cX6_told 5 = .ok (.astore_n 3, 1) := by decide +kernel
theorem dX6_told_6 : decode cX6_told 6 = .ok (.iload_n 2, 1) := by decide +kernel
theorem dX6_told_7 : decode cX6_told 7 = .ok (.ifCond .lt 12, 3) := by decide +kernel
theorem dX6_told_10 : decode cX6_told 10 = .ok (.iload_n 2, 1) := by decide +kernel
theorem dX6_told_11 : decode cX6_told 11 = .ok (.iconst 5, 1) := by decide +kernel
theorem dX6_told_12 : decode cX6_told 12 = .ok (.if_icmp .ge 7, 3) := by decide +kernel
theorem dX6_told_15 : decode cX6_told 15 = .ok (.iconst 1, 1) := by decide +kernel
theorem dX6_told_16 : decode cX6_told 16 = .ok (.goto 4, 3) := by decide +kernel
theorem dX6_told_19 : decode cX6_told 19 = .ok (.iconst 0, 1) := by decide +kernel
theorem dX6_told_20 : decode cX6_told 20 = .ok (.invokestatic 19, 3) := by decide +kernel
theorem dX6_told_23 : decode cX6_told 23 = .ok (.aload_n 3, 1) := by decide +kernel
theorem dX6_told_24 : decode cX6_told 24 = .ok (.getfield 157, 3) := by decide +kernel
theorem dX6_told_27 : decode cX6_told 27 = .ok (.iload_n 2, 1) := by decide +kernel
theorem dX6_told_28 : decode cX6_told 28 = .ok (.invokevirtual 161, 3) := by decide +kernel
theorem dX6_told_31 : decode cX6_told 31 = .ok (.ireturn, 1) := by decide +kernel
theorem dX6_processors_0 : decode cX6_processors 0 = .ok (.aload_n 0, 1) := by decide +kernel
theorem dX6_processors_1 : decode cX6_processors 1 = .ok (.getfield 10, 3) := by decide +kernel
theorem dX6_processors_4 : decode cX6_processors 4 = .ok (.getfield 23, 3) := by decide +kernel
theorem dX6_processors_7 : decode cX6_processors 7 = .ok (.getfield 27, 3) := by decide +kernel
theorem dX6_processors_10 : decode cX6_processors 10 = .ok (.ireturn, 1) := by decide +kernel
theorem dX6_on_0 : decode cX6_on 0 = .ok (.aload_n 0, 1) := by decide +kernel
theorem dX6_on_1 : decode cX6_on 1 = .ok (.iload_n 1, 1) := by decide +kernel
theorem dX6_on_2 : decode cX6_on 2 = .ok (.invokevirtual 166, 3) := by decide +kernel
theorem dX6_on_5 : decode cX6_on 5 = .ok (.aload_n 0, 1) := by decide +kernel
theorem dX6_on_6 : decode cX6_on 6 = .ok (.getfield 10, 3) := by decide +kernel
theorem dX6_on_9 : decode cX6_on 9 = .ok (.iload_n 1, 1) := by decide +kernel
theorem dX6_on_10 : decode cX6_on 10 = .ok (.invokevirtual 169, 3) := by decide +kernel
theorem dX6_on_13 : decode cX6_on 13 = .ok (.ireturn, 1) := by decide +kernel
theorem dX6_ran_0 : decode cX6_ran 0 = .ok (.aload_n 0, 1) := by decide +kernel
theorem dX6_ran_1 : decode cX6_ran 1 = .ok (.iload_n 1, 1) := by decide +kernel
theorem dX6_ran_2 : decode cX6_ran 2 = .ok (.invokevirtual 166, 3) := by decide +kernel
theorem dX6_ran_5 : decode cX6_ran 5 = .ok (.iload_n 2, 1) := by decide +kernel
theorem dX6_ran_6 : decode cX6_ran 6 = .ok (.iconst 1, 1) := by decide +kernel
theorem dX6_ran_7 : decode cX6_ran 7 = .ok (.if_icmp .lt 13, 3) := by decide +kernel
theorem dX6_ran_10 : decode cX6_ran 10 = .ok (.iload_n 2, 1) := by decide +kernel
theorem dX6_ran_11 : decode cX6_ran 11 = .ok (.bipush 30, 2) := by decide +kernel
theorem dX6_ran_13 : decode cX6_ran 13 = .ok (.if_icmp .gt 7, 3) := by decide +kernel
theorem dX6_ran_16 : decode cX6_ran 16 = .ok (.iconst 1, 1) := by decide +kernel
theorem dX6_ran_17 : decode cX6_ran 17 = .ok (.goto 4, 3) := by decide +kernel
theorem dX6_ran_20 : decode cX6_ran 20 = .ok (.iconst 0, 1) := by decide +kernel
theorem dX6_ran_21 : decode cX6_ran 21 = .ok (.invokestatic 19, 3) := by decide +kernel
theorem dX6_ran_24 : decode cX6_ran 24 = .ok (.aload_n 0, 1) := by decide +kernel
theorem dX6_ran_25 : decode cX6_ran 25 = .ok (.getfield 10, 3) := by decide +kernel
theorem dX6_ran_28 : decode cX6_ran 28 = .ok (.getfield 172, 3) := by decide +kernel
theorem dX6_ran_31 : decode cX6_ran 31 = .ok (.iload_n 1, 1) := by decide +kernel
theorem dX6_ran_32 : decode cX6_ran 32 = .ok (.aload_n 0, 1) := by decide +kernel
theorem dX6_ran_33 : decode cX6_ran 33 = .ok (.getfield 10, 3) := by decide +kernel
theorem dX6_ran_36 : decode cX6_ran 36 = .ok (.getfield 136, 3) := by decide +kernel
theorem dX6_ran_39 : decode cX6_ran 39 = .ok (.iload_n 2, 1) := by decide +kernel
theorem dX6_ran_40 : decode cX6_ran 40 = .ok (.isub, 1) := by decide +kernel
theorem dX6_ran_41 : decode cX6_ran 41 = .ok (.invokevirtual 176, 3) := by decide +kernel
theorem dX6_ran_44 : decode cX6_ran 44 = .ok (.ireturn, 1) := by decide +kernel
theorem dX6_switches_0 : decode cX6_switches 0 = .ok (.aload_n 0, 1) := by decide +kernel
theorem dX6_switches_1 : decode cX6_switches 1 = .ok (.getfield 10, 3) := by decide +kernel
theorem dX6_switches_4 : decode cX6_switches 4 = .ok (.getfield 172, 3) := by decide +kernel
theorem dX6_switches_7 : decode cX6_switches 7 = .ok (.getfield 182, 3) := by decide +kernel
theorem dX6_switches_10 : decode cX6_switches 10 = .ok (.ireturn, 1) := by decide +kernel
theorem dX6_idle_0 : decode cX6_idle 0 = .ok (.aload_n 0, 1) := by decide +kernel
theorem dX6_idle_1 : decode cX6_idle 1 = .ok (.getfield 10, 3) := by decide +kernel
theorem dX6_idle_4 : decode cX6_idle 4 = .ok (.getfield 172, 3) := by decide +kernel
theorem dX6_idle_7 : decode cX6_idle 7 = .ok (.getfield 185, 3) := by decide +kernel
theorem dX6_idle_10 : decode cX6_idle 10 = .ok (.ireturn, 1) := by decide +kernel
theorem dX6_used_0 : decode cX6_used 0 = .ok (.aload_n 0, 1) := by decide +kernel
theorem dX6_used_1 : decode cX6_used 1 = .ok (.getfield 10, 3) := by decide +kernel
theorem dX6_used_4 : decode cX6_used 4 = .ok (.getfield 188, 3) := by decide +kernel
theorem dX6_used_7 : decode cX6_used 7 = .ok (.astore_n 2, 1) := by decide +kernel
theorem dX6_used_8 : decode cX6_used 8 = .ok (.iload_n 1, 1) := by decide +kernel
theorem dX6_used_9 : decode cX6_used 9 = .ok (.ifCond .lt 9, 3) := by decide +kernel
theorem dX6_used_12 : decode cX6_used 12 = .ok (.iload_n 1, 1) := by decide +kernel
theorem dX6_used_13 : decode cX6_used 13 = .ok (.aload_n 2, 1) := by decide +kernel
theorem dX6_used_14 : decode cX6_used 14 = .ok (.arraylength, 1) := by decide +kernel
theorem dX6_used_15 : decode cX6_used 15 = .ok (.if_icmp .lt 13, 3) := by decide +kernel
theorem dX6_used_18 : decode cX6_used 18 = .ok (.new 49, 3) := by decide +kernel
theorem dX6_used_21 : decode cX6_used 21 = .ok (.dup, 1) := by decide +kernel
theorem dX6_used_22 : decode cX6_used 22 = .ok (.ldc 51, 2) := by decide +kernel
theorem dX6_used_24 : decode cX6_used 24 = .ok (.invokespecial 53, 3) := by decide +kernel
theorem dX6_used_27 : decode cX6_used 27 = .ok (.athrow, 1) := by decide +kernel
theorem dX6_used_28 : decode cX6_used 28 = .ok (.aload_n 2, 1) := by decide +kernel
theorem dX6_used_29 : decode cX6_used 29 = .ok (.iload_n 1, 1) := by decide +kernel
theorem dX6_used_30 : decode cX6_used 30 = .ok (.iaload, 1) := by decide +kernel
theorem dX6_used_31 : decode cX6_used 31 = .ok (.ireturn, 1) := by decide +kernel
theorem dX6_holder_0 : decode cX6_holder 0 = .ok (.iload_n 1, 1) := by decide +kernel
theorem dX6_holder_1 : decode cX6_holder 1 = .ok (.invokestatic 191, 3) := by decide +kernel
theorem dX6_holder_4 : decode cX6_holder 4 = .ok (.aload_n 0, 1) := by decide +kernel
theorem dX6_holder_5 : decode cX6_holder 5 = .ok (.getfield 10, 3) := by decide +kernel
theorem dX6_holder_8 : decode cX6_holder 8 = .ok (.iload_n 1, 1) := by decide +kernel
theorem dX6_holder_9 : decode cX6_holder 9 = .ok (.invokevirtual 194, 3) := by decide +kernel
theorem dX6_holder_12 : decode cX6_holder 12 = .ok (.ireturn, 1) := by decide +kernel
theorem dX6_blocked_0 : decode cX6_blocked 0 = .ok (.iload_n 1, 1) := by decide +kernel
theorem dX6_blocked_1 : decode cX6_blocked 1 = .ok (.invokestatic 191, 3) := by decide +kernel
theorem dX6_blocked_4 : decode cX6_blocked 4 = .ok (.aload_n 0, 1) := by decide +kernel
theorem dX6_blocked_5 : decode cX6_blocked 5 = .ok (.getfield 10, 3) := by decide +kernel
theorem dX6_blocked_8 : decode cX6_blocked 8 = .ok (.iconst 4, 1) := by decide +kernel
theorem dX6_blocked_9 : decode cX6_blocked 9 = .ok (.iload_n 1, 1) := by decide +kernel
theorem dX6_blocked_10 : decode cX6_blocked 10 = .ok (.invokevirtual 197, 3) := by decide +kernel
theorem dX6_blocked_13 : decode cX6_blocked 13 = .ok (.ireturn, 1) := by decide +kernel
theorem dX6_number_0 : decode cX6_number 0 = .ok (.iload_n 1, 1) := by decide +kernel
theorem dX6_number_1 : decode cX6_number 1 = .ok (.invokestatic 122, 3) := by decide +kernel
theorem dX6_number_4 : decode cX6_number 4 = .ok (.aload_n 0, 1) := by decide +kernel
theorem dX6_number_5 : decode cX6_number 5 = .ok (.getfield 10, 3) := by decide +kernel
theorem dX6_number_8 : decode cX6_number 8 = .ok (.iload_n 1, 1) := by decide +kernel
theorem dX6_number_9 : decode cX6_number 9 = .ok (.invokevirtual 129, 3) := by decide +kernel
theorem dX6_number_12 : decode cX6_number 12 = .ok (.ireturn, 1) := by decide +kernel
theorem dX6_awaiting_0 : decode cX6_awaiting 0 = .ok (.iload_n 1, 1) := by decide +kernel
theorem dX6_awaiting_1 : decode cX6_awaiting 1 = .ok (.invokestatic 122, 3) := by decide +kernel
theorem dX6_awaiting_4 : decode cX6_awaiting 4 = .ok (.aload_n 0, 1) := by decide +kernel
theorem dX6_awaiting_5 : decode cX6_awaiting 5 = .ok (.getfield 10, 3) := by decide +kernel
theorem dX6_awaiting_8 : decode cX6_awaiting 8 = .ok (.iconst 5, 1) := by decide +kernel
theorem dX6_awaiting_9 : decode cX6_awaiting 9 = .ok (.iload_n 1, 1) := by decide +kernel
theorem dX6_awaiting_10 : decode cX6_awaiting 10 = .ok (.invokevirtual 197, 3) := by decide +kernel
theorem dX6_awaiting_13 : decode cX6_awaiting 13 = .ok (.ireturn, 1) := by decide +kernel
theorem dX6_stuck_0 : decode cX6_stuck 0 = .ok (.aload_n 0, 1) := by decide +kernel
theorem dX6_stuck_1 : decode cX6_stuck 1 = .ok (.getfield 10, 3) := by decide +kernel
theorem dX6_stuck_4 : decode cX6_stuck 4 = .ok (.invokevirtual 200, 3) := by decide +kernel
theorem dX6_stuck_7 : decode cX6_stuck 7 = .ok (.ireturn, 1) := by decide +kernel
theorem dX6_load_0 : decode cX6_load 0 = .ok (.aload_n 0, 1) := by decide +kernel
theorem dX6_load_1 : decode cX6_load 1 = .ok (.getfield 10, 3) := by decide +kernel
theorem dX6_load_4 : decode cX6_load 4 = .ok (.getfield 172, 3) := by decide +kernel
theorem dX6_load_7 : decode cX6_load 7 = .ok (.getfield 204, 3) := by decide +kernel
theorem dX6_load_10 : decode cX6_load 10 = .ok (.istore_n 1, 1) := by decide +kernel
theorem dX6_load_11 : decode cX6_load 11 = .ok (.iload_n 1, 1) := by decide +kernel
theorem dX6_load_12 : decode cX6_load 12 = .ok (.ifCond .gt 5, 3) := by decide +kernel
theorem dX6_load_15 : decode cX6_load 15 = .ok (.dconst 0, 1) := by decide +kernel
theorem dX6_load_16 : decode cX6_load 16 = .ok (.dreturn, 1) := by decide +kernel
theorem dX6_load_17 : decode cX6_load 17 = .ok (.iload_n 1, 1) := by decide +kernel
theorem dX6_load_18 : decode cX6_load 18 = .ok (.aload_n 0, 1) := by decide +kernel
theorem dX6_load_19 : decode cX6_load 19 = .ok (.getfield 10, 3) := by decide +kernel
theorem dX6_load_22 : decode cX6_load 22 = .ok (.getfield 172, 3) := by decide +kernel
theorem dX6_load_25 : decode cX6_load 25 = .ok (.getfield 185, 3) := by decide +kernel
theorem dX6_load_28 : decode cX6_load 28 = .ok (.isub, 1) := by decide +kernel
theorem dX6_load_29 : decode cX6_load 29 = .ok (.i2d, 1) := by decide +kernel
theorem dX6_load_30 : decode cX6_load 30 = .ok (.iload_n 1, 1) := by decide +kernel
theorem dX6_load_31 : decode cX6_load 31 = .ok (.i2d, 1) := by decide +kernel
theorem dX6_load_32 : decode cX6_load 32 = .ok (.ddiv, 1) := by decide +kernel
theorem dX6_load_33 : decode cX6_load 33 = .ok (.dreturn, 1) := by decide +kernel
theorem dX6_doneIn_0 : decode cX6_doneIn 0 = .ok (.aload_n 0, 1) := by decide +kernel
theorem dX6_doneIn_1 : decode cX6_doneIn 1 = .ok (.iload_n 1, 1) := by decide +kernel
theorem dX6_doneIn_2 : decode cX6_doneIn 2 = .ok (.aload_n 0, 1) := by decide +kernel
theorem dX6_doneIn_3 : decode cX6_doneIn 3 = .ok (.iload_n 1, 1) := by decide +kernel
theorem dX6_doneIn_4 : decode cX6_doneIn 4 = .ok (.invokevirtual 88, 3) := by decide +kernel
theorem dX6_doneIn_7 : decode cX6_doneIn 7 = .ok (.getfield 71, 3) := by decide +kernel
theorem dX6_doneIn_10 : decode cX6_doneIn 10 = .ok (.iload_n 2, 1) := by decide +kernel
theorem dX6_doneIn_11 : decode cX6_doneIn 11 = .ok (.invokevirtual 207, 3) := by decide +kernel
theorem dX6_doneIn_14 : decode cX6_doneIn 14 = .ok (.ireturn, 1) := by decide +kernel
theorem dX6_doneWith_0 : decode cX6_doneWith 0 = .ok (.aload_n 0, 1) := by decide +kernel
theorem dX6_doneWith_1 : decode cX6_doneWith 1 = .ok (.iload_n 1, 1) := by decide +kernel
theorem dX6_doneWith_2 : decode cX6_doneWith 2 = .ok (.invokevirtual 88, 3) := by decide +kernel
theorem dX6_doneWith_5 : decode cX6_doneWith 5 = .ok (.pop, 1) := by decide +kernel
theorem dX6_doneWith_6 : decode cX6_doneWith 6 = .ok (.iload_n 2, 1) := by decide +kernel
theorem dX6_doneWith_7 : decode cX6_doneWith 7 = .ok (.ifCond .lt 13, 3) := by decide +kernel
theorem dX6_doneWith_10 : decode cX6_doneWith 10 = .ok (.iload_n 2, 1) := by decide +kernel
theorem dX6_doneWith_11 : decode cX6_doneWith 11 = .ok (.bipush 8, 2) := by decide +kernel
theorem dX6_doneWith_13 : decode cX6_doneWith 13 = .ok (.if_icmp .ge 7, 3) := by decide +kernel
theorem dX6_doneWith_16 : decode cX6_doneWith 16 = .ok (.iconst 1, 1) := by decide +kernel
theorem dX6_doneWith_17 : decode cX6_doneWith 17 = .ok (.goto 4, 3) := by decide +kernel
theorem dX6_doneWith_20 : decode cX6_doneWith 20 = .ok (.iconst 0, 1) := by decide +kernel
theorem dX6_doneWith_21 : decode cX6_doneWith 21 = .ok (.invokestatic 19, 3) := by decide +kernel
theorem dX6_doneWith_24 : decode cX6_doneWith 24 = .ok (.iload_n 3, 1) := by decide +kernel
theorem dX6_doneWith_25 : decode cX6_doneWith 25 = .ok (.invokestatic 211, 3) := by decide +kernel
theorem dX6_doneWith_28 : decode cX6_doneWith 28 = .ok (.aload_n 0, 1) := by decide +kernel
theorem dX6_doneWith_29 : decode cX6_doneWith 29 = .ok (.getfield 16, 3) := by decide +kernel
theorem dX6_doneWith_32 : decode cX6_doneWith 32 = .ok (.aload_n 0, 1) := by decide +kernel
theorem dX6_doneWith_33 : decode cX6_doneWith 33 = .ok (.getfield 10, 3) := by decide +kernel
theorem dX6_doneWith_36 : decode cX6_doneWith 36 = .ok (.invokevirtual 214, 3) := by decide +kernel
theorem dX6_doneWith_39 : decode cX6_doneWith 39 = .ok (.aload_n 0, 1) := by decide +kernel
theorem dX6_doneWith_40 : decode cX6_doneWith 40 = .ok (.getfield 16, 3) := by decide +kernel
theorem dX6_doneWith_43 : decode cX6_doneWith 43 = .ok (.iload_n 1, 1) := by decide +kernel
theorem dX6_doneWith_44 : decode cX6_doneWith 44 = .ok (.invokevirtual 62, 3) := by decide +kernel
theorem dX6_doneWith_47 : decode cX6_doneWith 47 = .ok (.astore 4, 2) := by decide +kernel
theorem dX6_doneWith_49 : decode cX6_doneWith 49 = .ok (.aload 4, 2) := by decide +kernel
theorem dX6_doneWith_51 : decode cX6_doneWith 51 = .ok (.ifnonnull 5, 3) := by decide +kernel
theorem dX6_doneWith_54 : decode cX6_doneWith 54 = .ok (.iconst (-1), 1) := by decide +kernel
theorem dX6_doneWith_55 : decode cX6_doneWith 55 = .ok (.ireturn, 1) := by decide +kernel
theorem dX6_doneWith_56 : decode cX6_doneWith 56 = .ok (.aload 4, 2) := by decide +kernel
theorem dX6_doneWith_58 : decode cX6_doneWith 58 = .ok (.iload_n 2, 1) := by decide +kernel
theorem dX6_doneWith_59 : decode cX6_doneWith 59 = .ok (.putfield 71, 3) := by decide +kernel
theorem dX6_doneWith_62 : decode cX6_doneWith 62 = .ok (.iconst 0, 1) := by decide +kernel
theorem dX6_doneWith_63 : decode cX6_doneWith 63 = .ok (.istore 5, 2) := by decide +kernel
theorem dX6_doneWith_65 : decode cX6_doneWith 65 = .ok (.iload 5, 2) := by decide +kernel
theorem dX6_doneWith_67 : decode cX6_doneWith 67 = .ok (.iload_n 3, 1) := by decide +kernel
theorem dX6_doneWith_68 : decode cX6_doneWith 68 = .ok (.if_icmp .ge 29, 3) := by decide +kernel
theorem dX6_doneWith_71 : decode cX6_doneWith 71 = .ok (.aload 4, 2) := by decide +kernel
theorem dX6_doneWith_73 : decode cX6_doneWith 73 = .ok (.getfield 95, 3) := by decide +kernel
theorem dX6_doneWith_76 : decode cX6_doneWith 76 = .ok (.bipush 6, 2) := by decide +kernel
theorem dX6_doneWith_78 : decode cX6_doneWith 78 = .ok (.if_icmp .ne 6, 3) := by decide +kernel
theorem dX6_doneWith_81 : decode cX6_doneWith 81 = .ok (.iload 5, 2) := by decide +kernel
theorem dX6_doneWith_83 : decode cX6_doneWith 83 = .ok (.ireturn, 1) := by decide +kernel
theorem dX6_doneWith_84 : decode cX6_doneWith 84 = .ok (.aload_n 0, 1) := by decide +kernel
theorem dX6_doneWith_85 : decode cX6_doneWith 85 = .ok (.getfield 16, 3) := by decide +kernel
theorem dX6_doneWith_88 : decode cX6_doneWith 88 = .ok (.invokevirtual 133, 3) := by decide +kernel
theorem dX6_doneWith_91 : decode cX6_doneWith 91 = .ok (.iinc 5 1, 3) := by decide +kernel
theorem dX6_doneWith_94 : decode cX6_doneWith 94 = .ok (.goto (-29), 3) := by decide +kernel
theorem dX6_doneWith_97 : decode cX6_doneWith 97 = .ok (.aload 4, 2) := by decide +kernel
theorem dX6_doneWith_99 : decode cX6_doneWith 99 = .ok (.getfield 95, 3) := by decide +kernel
theorem dX6_doneWith_102 : decode cX6_doneWith 102 = .ok (.bipush 6, 2) := by decide +kernel
theorem dX6_doneWith_104 : decode cX6_doneWith 104 = .ok (.if_icmp .ne 7, 3) := by decide +kernel
theorem dX6_doneWith_107 : decode cX6_doneWith 107 = .ok (.iload_n 3, 1) := by decide +kernel
theorem dX6_doneWith_108 : decode cX6_doneWith 108 = .ok (.goto 4, 3) := by decide +kernel
theorem dX6_doneWith_111 : decode cX6_doneWith 111 = .ok (.iconst (-1), 1) := by decide +kernel
theorem dX6_doneWith_112 : decode cX6_doneWith 112 = .ok (.ireturn, 1) := by decide +kernel
theorem dX6_idleIn_0 : decode cX6_idleIn 0 = .ok (.iload_n 1, 1) := by decide +kernel
theorem dX6_idleIn_1 : decode cX6_idleIn 1 = .ok (.invokestatic 211, 3) := by decide +kernel
theorem dX6_idleIn_4 : decode cX6_idleIn 4 = .ok (.aload_n 0, 1) := by decide +kernel
theorem dX6_idleIn_5 : decode cX6_idleIn 5 = .ok (.getfield 16, 3) := by decide +kernel
theorem dX6_idleIn_8 : decode cX6_idleIn 8 = .ok (.aload_n 0, 1) := by decide +kernel
theorem dX6_idleIn_9 : decode cX6_idleIn 9 = .ok (.getfield 10, 3) := by decide +kernel
theorem dX6_idleIn_12 : decode cX6_idleIn 12 = .ok (.invokevirtual 214, 3) := by decide +kernel
theorem dX6_idleIn_15 : decode cX6_idleIn 15 = .ok (.iconst 0, 1) := by decide +kernel
theorem dX6_idleIn_16 : decode cX6_idleIn 16 = .ok (.istore_n 2, 1) := by decide +kernel
theorem dX6_idleIn_17 : decode cX6_idleIn 17 = .ok (.iload_n 2, 1) := by decide +kernel
theorem dX6_idleIn_18 : decode cX6_idleIn 18 = .ok (.iload_n 1, 1) := by decide +kernel
theorem dX6_idleIn_19 : decode cX6_idleIn 19 = .ok (.if_icmp .ge 16, 3) := by decide +kernel
theorem dX6_idleIn_22 : decode cX6_idleIn 22 = .ok (.aload_n 0, 1) := by decide +kernel
theorem dX6_idleIn_23 : decode cX6_idleIn 23 = .ok (.getfield 16, 3) := by decide +kernel
theorem dX6_idleIn_26 : decode cX6_idleIn 26 = .ok (.invokevirtual 133, 3) := by decide +kernel
theorem dX6_idleIn_29 : decode cX6_idleIn 29 = .ok (.iinc 2 1, 3) := by decide +kernel
theorem dX6_idleIn_32 : decode cX6_idleIn 32 = .ok (.goto (-15), 3) := by decide +kernel
theorem dX6_idleIn_35 : decode cX6_idleIn 35 = .ok (.aload_n 0, 1) := by decide +kernel
theorem dX6_idleIn_36 : decode cX6_idleIn 36 = .ok (.getfield 16, 3) := by decide +kernel
theorem dX6_idleIn_39 : decode cX6_idleIn 39 = .ok (.getfield 172, 3) := by decide +kernel
theorem dX6_idleIn_42 : decode cX6_idleIn 42 = .ok (.getfield 185, 3) := by decide +kernel
theorem dX6_idleIn_45 : decode cX6_idleIn 45 = .ok (.aload_n 0, 1) := by decide +kernel
theorem dX6_idleIn_46 : decode cX6_idleIn 46 = .ok (.getfield 10, 3) := by decide +kernel
theorem dX6_idleIn_49 : decode cX6_idleIn 49 = .ok (.getfield 172, 3) := by decide +kernel
theorem dX6_idleIn_52 : decode cX6_idleIn 52 = .ok (.getfield 185, 3) := by decide +kernel
theorem dX6_idleIn_55 : decode cX6_idleIn 55 = .ok (.isub, 1) := by decide +kernel
theorem dX6_idleIn_56 : decode cX6_idleIn 56 = .ok (.ireturn, 1) := by decide +kernel
theorem dX6_stuckIn_0 : decode cX6_stuckIn 0 = .ok (.iload_n 1, 1) := by decide +kernel
theorem dX6_stuckIn_1 : decode cX6_stuckIn 1 = .ok (.invokestatic 211, 3) := by decide +kernel
theorem dX6_stuckIn_4 : decode cX6_stuckIn 4 = .ok (.aload_n 0, 1) := by decide +kernel
theorem dX6_stuckIn_5 : decode cX6_stuckIn 5 = .ok (.getfield 16, 3) := by decide +kernel
theorem dX6_stuckIn_8 : decode cX6_stuckIn 8 = .ok (.aload_n 0, 1) := by decide +kernel
theorem dX6_stuckIn_9 : decode cX6_stuckIn 9 = .ok (.getfield 10, 3) := by decide +kernel
theorem dX6_stuckIn_12 : decode cX6_stuckIn 12 = .ok (.invokevirtual 214, 3) := by decide +kernel
theorem dX6_stuckIn_15 : decode cX6_stuckIn 15 = .ok (.iconst 0, 1) := by decide +kernel
theorem dX6_stuckIn_16 : decode cX6_stuckIn 16 = .ok (.istore_n 2, 1) := by decide +kernel
theorem dX6_stuckIn_17 : decode cX6_stuckIn 17 = .ok (.iload_n 2, 1) := by decide +kernel
theorem dX6_stuckIn_18 : decode cX6_stuckIn 18 = .ok (.iload_n 1, 1) := by decide +kernel
theorem dX6_stuckIn_19 : decode cX6_stuckIn 19 = .ok (.if_icmp .ge 28, 3) := by decide +kernel
theorem dX6_stuckIn_22 : decode cX6_stuckIn 22 = .ok (.aload_n 0, 1) := by decide +kernel
theorem dX6_stuckIn_23 : decode cX6_stuckIn 23 = .ok (.getfield 16, 3) := by decide +kernel
theorem dX6_stuckIn_26 : decode cX6_stuckIn 26 = .ok (.invokevirtual 200, 3) := by decide +kernel
theorem dX6_stuckIn_29 : decode cX6_stuckIn 29 = .ok (.ifCond .eq 5, 3) := by decide +kernel
theorem dX6_stuckIn_32 : decode cX6_stuckIn 32 = .ok (.iload_n 2, 1) := by decide +kernel
theorem dX6_stuckIn_33 : decode cX6_stuckIn 33 = .ok (.ireturn, 1) := by decide +kernel
theorem dX6_stuckIn_34 : decode cX6_stuckIn 34 = .ok (.aload_n 0, 1) := by decide +kernel
theorem dX6_stuckIn_35 : decode cX6_stuckIn 35 = .ok (.getfield 16, 3) := by decide +kernel
theorem dX6_stuckIn_38 : decode cX6_stuckIn 38 = .ok (.invokevirtual 133, 3) := by decide +kernel
theorem dX6_stuckIn_41 : decode cX6_stuckIn 41 = .ok (.iinc 2 1, 3) := by decide +kernel
theorem dX6_stuckIn_44 : decode cX6_stuckIn 44 = .ok (.goto (-27), 3) := by decide +kernel
theorem dX6_stuckIn_47 : decode cX6_stuckIn 47 = .ok (.aload_n 0, 1) := by decide +kernel
theorem dX6_stuckIn_48 : decode cX6_stuckIn 48 = .ok (.getfield 16, 3) := by decide +kernel
theorem dX6_stuckIn_51 : decode cX6_stuckIn 51 = .ok (.invokevirtual 200, 3) := by decide +kernel
theorem dX6_stuckIn_54 : decode cX6_stuckIn 54 = .ok (.ifCond .eq 7, 3) := by decide +kernel
theorem dX6_stuckIn_57 : decode cX6_stuckIn 57 = .ok (.iload_n 1, 1) := by decide +kernel
theorem dX6_stuckIn_58 : decode cX6_stuckIn 58 = .ok (.goto 4, 3) := by decide +kernel
theorem dX6_stuckIn_61 : decode cX6_stuckIn 61 = .ok (.iconst (-1), 1) := by decide +kernel
theorem dX6_stuckIn_62 : decode cX6_stuckIn 62 = .ok (.ireturn, 1) := by decide +kernel
theorem dX6_digest_0 : decode cX6_digest 0 = .ok (.ldc2_w 218, 3) := by decide +kernel
theorem dX6_digest_3 : decode cX6_digest 3 = .ok (.lstore_n 1, 1) := by decide +kernel
theorem dX6_digest_4 : decode cX6_digest 4 = .ok (.lload_n 1, 1) := by decide +kernel
theorem dX6_digest_5 : decode cX6_digest 5 = .ok (.ldc2_w 220, 3) := by decide +kernel
theorem dX6_digest_8 : decode cX6_digest 8 = .ok (.lmul, 1) := by decide +kernel
theorem dX6_digest_9 : decode cX6_digest 9 = .ok (.aload_n 0, 1) := by decide +kernel
theorem dX6_digest_10 : decode cX6_digest 10 = .ok (.invokevirtual 222, 3) := by decide +kernel
theorem dX6_digest_13 : decode cX6_digest 13 = .ok (.i2l, 1) := by decide +kernel
theorem dX6_digest_14 : decode cX6_digest 14 = .ok (.ladd, 1) := by decide +kernel
theorem dX6_digest_15 : decode cX6_digest 15 = .ok (.lstore_n 1, 1) := by decide +kernel
theorem dX6_digest_16 : decode cX6_digest 16 = .ok (.lload_n 1, 1) := by decide +kernel
theorem dX6_digest_17 : decode cX6_digest 17 = .ok (.ldc2_w 220, 3) := by decide +kernel
theorem dX6_digest_20 : decode cX6_digest 20 = .ok (.lmul, 1) := by decide +kernel
theorem dX6_digest_21 : decode cX6_digest 21 = .ok (.aload_n 0, 1) := by decide +kernel
theorem dX6_digest_22 : decode cX6_digest 22 = .ok (.invokevirtual 224, 3) := by decide +kernel
theorem dX6_digest_25 : decode cX6_digest 25 = .ok (.i2l, 1) := by decide +kernel
theorem dX6_digest_26 : decode cX6_digest 26 = .ok (.ladd, 1) := by decide +kernel
theorem dX6_digest_27 : decode cX6_digest 27 = .ok (.lstore_n 1, 1) := by decide +kernel
theorem dX6_digest_28 : decode cX6_digest 28 = .ok (.lload_n 1, 1) := by decide +kernel
theorem dX6_digest_29 : decode cX6_digest 29 = .ok (.ldc2_w 220, 3) := by decide +kernel
theorem dX6_digest_32 : decode cX6_digest 32 = .ok (.lmul, 1) := by decide +kernel
theorem dX6_digest_33 : decode cX6_digest 33 = .ok (.aload_n 0, 1) := by decide +kernel
theorem dX6_digest_34 : decode cX6_digest 34 = .ok (.invokevirtual 227, 3) := by decide +kernel
theorem dX6_digest_37 : decode cX6_digest 37 = .ok (.i2l, 1) := by decide +kernel
theorem dX6_digest_38 : decode cX6_digest 38 = .ok (.ladd, 1) := by decide +kernel
theorem dX6_digest_39 : decode cX6_digest 39 = .ok (.lstore_n 1, 1) := by decide +kernel
theorem dX6_digest_40 : decode cX6_digest 40 = .ok (.lload_n 1, 1) := by decide +kernel
theorem dX6_digest_41 : decode cX6_digest 41 = .ok (.ldc2_w 220, 3) := by decide +kernel
theorem dX6_digest_44 : decode cX6_digest 44 = .ok (.lmul, 1) := by decide +kernel
theorem dX6_digest_45 : decode cX6_digest 45 = .ok (.aload_n 0, 1) := by decide +kernel
theorem dX6_digest_46 : decode cX6_digest 46 = .ok (.invokevirtual 229, 3) := by decide +kernel
theorem dX6_digest_49 : decode cX6_digest 49 = .ok (.i2l, 1) := by decide +kernel
theorem dX6_digest_50 : decode cX6_digest 50 = .ok (.ladd, 1) := by decide +kernel
theorem dX6_digest_51 : decode cX6_digest 51 = .ok (.lstore_n 1, 1) := by decide +kernel
theorem dX6_digest_52 : decode cX6_digest 52 = .ok (.lload_n 1, 1) := by decide +kernel
theorem dX6_digest_53 : decode cX6_digest 53 = .ok (.ldc2_w 220, 3) := by decide +kernel
theorem dX6_digest_56 : decode cX6_digest 56 = .ok (.lmul, 1) := by decide +kernel
theorem dX6_digest_57 : decode cX6_digest 57 = .ok (.aload_n 0, 1) := by decide +kernel
theorem dX6_digest_58 : decode cX6_digest 58 = .ok (.invokevirtual 231, 3) := by decide +kernel
theorem dX6_digest_61 : decode cX6_digest 61 = .ok (.i2l, 1) := by decide +kernel
theorem dX6_digest_62 : decode cX6_digest 62 = .ok (.ladd, 1) := by decide +kernel
theorem dX6_digest_63 : decode cX6_digest 63 = .ok (.lstore_n 1, 1) := by decide +kernel
theorem dX6_digest_64 : decode cX6_digest 64 = .ok (.lload_n 1, 1) := by decide +kernel
theorem dX6_digest_65 : decode cX6_digest 65 = .ok (.ldc2_w 220, 3) := by decide +kernel
theorem dX6_digest_68 : decode cX6_digest 68 = .ok (.lmul, 1) := by decide +kernel
theorem dX6_digest_69 : decode cX6_digest 69 = .ok (.aload_n 0, 1) := by decide +kernel
theorem dX6_digest_70 : decode cX6_digest 70 = .ok (.invokevirtual 233, 3) := by decide +kernel
theorem dX6_digest_73 : decode cX6_digest 73 = .ok (.i2l, 1) := by decide +kernel
theorem dX6_digest_74 : decode cX6_digest 74 = .ok (.ladd, 1) := by decide +kernel
theorem dX6_digest_75 : decode cX6_digest 75 = .ok (.lstore_n 1, 1) := by decide +kernel
theorem dX6_digest_76 : decode cX6_digest 76 = .ok (.iconst 0, 1) := by decide +kernel
theorem dX6_digest_77 : decode cX6_digest 77 = .ok (.istore_n 3, 1) := by decide +kernel
theorem dX6_digest_78 : decode cX6_digest 78 = .ok (.iload_n 3, 1) := by decide +kernel
theorem dX6_digest_79 : decode cX6_digest 79 = .ok (.aload_n 0, 1) := by decide +kernel
theorem dX6_digest_80 : decode cX6_digest 80 = .ok (.invokevirtual 224, 3) := by decide +kernel
theorem dX6_digest_83 : decode cX6_digest 83 = .ok (.if_icmp .ge 16, 3) := by decide +kernel
theorem dX6_digest_86 : decode cX6_digest 86 = .ok (.aload_n 0, 1) := by decide +kernel
theorem dX6_digest_87 : decode cX6_digest 87 = .ok (.lload_n 1, 1) := by decide +kernel
theorem dX6_digest_88 : decode cX6_digest 88 = .ok (.iload_n 3, 1) := by decide +kernel
theorem dX6_digest_89 : decode cX6_digest 89 = .ok (.invokevirtual 236, 3) := by decide +kernel
theorem dX6_digest_92 : decode cX6_digest 92 = .ok (.lstore_n 1, 1) := by decide +kernel
theorem dX6_digest_93 : decode cX6_digest 93 = .ok (.iinc 3 1, 3) := by decide +kernel
theorem dX6_digest_96 : decode cX6_digest 96 = .ok (.goto (-18), 3) := by decide +kernel
theorem dX6_digest_99 : decode cX6_digest 99 = .ok (.iconst 0, 1) := by decide +kernel
theorem dX6_digest_100 : decode cX6_digest 100 = .ok (.istore_n 3, 1) := by decide +kernel
theorem dX6_digest_101 : decode cX6_digest 101 = .ok (.iload_n 3, 1) := by decide +kernel
theorem dX6_digest_102 : decode cX6_digest 102 = .ok (.aload_n 0, 1) := by decide +kernel
theorem dX6_digest_103 : decode cX6_digest 103 = .ok (.invokevirtual 227, 3) := by decide +kernel
theorem dX6_digest_106 : decode cX6_digest 106 = .ok (.if_icmp .ge 16, 3) := by decide +kernel
theorem dX6_digest_109 : decode cX6_digest 109 = .ok (.aload_n 0, 1) := by decide +kernel
theorem dX6_digest_110 : decode cX6_digest 110 = .ok (.lload_n 1, 1) := by decide +kernel
theorem dX6_digest_111 : decode cX6_digest 111 = .ok (.iload_n 3, 1) := by decide +kernel
theorem dX6_digest_112 : decode cX6_digest 112 = .ok (.invokevirtual 240, 3) := by decide +kernel
theorem dX6_digest_115 : decode cX6_digest 115 = .ok (.lstore_n 1, 1) := by decide +kernel
theorem dX6_digest_116 : decode cX6_digest 116 = .ok (.iinc 3 1, 3) := by decide +kernel
theorem dX6_digest_119 : decode cX6_digest 119 = .ok (.goto (-18), 3) := by decide +kernel
theorem dX6_digest_122 : decode cX6_digest 122 = .ok (.iconst 0, 1) := by decide +kernel
theorem dX6_digest_123 : decode cX6_digest 123 = .ok (.istore_n 3, 1) := by decide +kernel
theorem dX6_digest_124 : decode cX6_digest 124 = .ok (.iload_n 3, 1) := by decide +kernel
theorem dX6_digest_125 : decode cX6_digest 125 = .ok (.iconst 4, 1) := by decide +kernel
theorem dX6_digest_126 : decode cX6_digest 126 = .ok (.if_icmp .ge 22, 3) := by decide +kernel
theorem dX6_digest_129 : decode cX6_digest 129 = .ok (.lload_n 1, 1) := by decide +kernel
theorem dX6_digest_130 : decode cX6_digest 130 = .ok (.ldc2_w 220, 3) := by decide +kernel
theorem dX6_digest_133 : decode cX6_digest 133 = .ok (.lmul, 1) := by decide +kernel
theorem dX6_digest_134 : decode cX6_digest 134 = .ok (.aload_n 0, 1) := by decide +kernel
theorem dX6_digest_135 : decode cX6_digest 135 = .ok (.iload_n 3, 1) := by decide +kernel
theorem dX6_digest_136 : decode cX6_digest 136 = .ok (.invokevirtual 243, 3) := by decide +kernel
theorem dX6_digest_139 : decode cX6_digest 139 = .ok (.i2l, 1) := by decide +kernel
theorem dX6_digest_140 : decode cX6_digest 140 = .ok (.ladd, 1) := by decide +kernel
theorem dX6_digest_141 : decode cX6_digest 141 = .ok (.lstore_n 1, 1) := by decide +kernel
theorem dX6_digest_142 : decode cX6_digest 142 = .ok (.iinc 3 1, 3) := by decide +kernel
theorem dX6_digest_145 : decode cX6_digest 145 = .ok (.goto (-21), 3) := by decide +kernel
theorem dX6_digest_148 : decode cX6_digest 148 = .ok (.iconst 0, 1) := by decide +kernel
theorem dX6_digest_149 : decode cX6_digest 149 = .ok (.istore_n 3, 1) := by decide +kernel
theorem dX6_digest_150 : decode cX6_digest 150 = .ok (.iload_n 3, 1) := by decide +kernel
theorem dX6_digest_151 : decode cX6_digest 151 = .ok (.bipush 6, 2) := by decide +kernel
theorem dX6_digest_153 : decode cX6_digest 153 = .ok (.if_icmp .ge 35, 3) := by decide +kernel
theorem dX6_digest_156 : decode cX6_digest 156 = .ok (.lload_n 1, 1) := by decide +kernel
theorem dX6_digest_157 : decode cX6_digest 157 = .ok (.ldc2_w 220, 3) := by decide +kernel
theorem dX6_digest_160 : decode cX6_digest 160 = .ok (.lmul, 1) := by decide +kernel
theorem dX6_digest_161 : decode cX6_digest 161 = .ok (.aload_n 0, 1) := by decide +kernel
theorem dX6_digest_162 : decode cX6_digest 162 = .ok (.iload_n 3, 1) := by decide +kernel
theorem dX6_digest_163 : decode cX6_digest 163 = .ok (.invokevirtual 246, 3) := by decide +kernel
theorem dX6_digest_166 : decode cX6_digest 166 = .ok (.i2l, 1) := by decide +kernel
theorem dX6_digest_167 : decode cX6_digest 167 = .ok (.ladd, 1) := by decide +kernel
theorem dX6_digest_168 : decode cX6_digest 168 = .ok (.lstore_n 1, 1) := by decide +kernel
theorem dX6_digest_169 : decode cX6_digest 169 = .ok (.lload_n 1, 1) := by decide +kernel
theorem dX6_digest_170 : decode cX6_digest 170 = .ok (.ldc2_w 220, 3) := by decide +kernel
theorem dX6_digest_173 : decode cX6_digest 173 = .ok (.lmul, 1) := by decide +kernel
theorem dX6_digest_174 : decode cX6_digest 174 = .ok (.aload_n 0, 1) := by decide +kernel
theorem dX6_digest_175 : decode cX6_digest 175 = .ok (.iload_n 3, 1) := by decide +kernel
theorem dX6_digest_176 : decode cX6_digest 176 = .ok (.invokevirtual 249, 3) := by decide +kernel
theorem dX6_digest_179 : decode cX6_digest 179 = .ok (.i2l, 1) := by decide +kernel
theorem dX6_digest_180 : decode cX6_digest 180 = .ok (.ladd, 1) := by decide +kernel
theorem dX6_digest_181 : decode cX6_digest 181 = .ok (.lstore_n 1, 1) := by decide +kernel
theorem dX6_digest_182 : decode cX6_digest 182 = .ok (.iinc 3 1, 3) := by decide +kernel
theorem dX6_digest_185 : decode cX6_digest 185 = .ok (.goto (-35), 3) := by decide +kernel
theorem dX6_digest_188 : decode cX6_digest 188 = .ok (.iconst 0, 1) := by decide +kernel
theorem dX6_digest_189 : decode cX6_digest 189 = .ok (.istore_n 3, 1) := by decide +kernel
theorem dX6_digest_190 : decode cX6_digest 190 = .ok (.iload_n 3, 1) := by decide +kernel
theorem dX6_digest_191 : decode cX6_digest 191 = .ok (.bipush 6, 2) := by decide +kernel
theorem dX6_digest_193 : decode cX6_digest 193 = .ok (.if_icmp .ge 35, 3) := by decide +kernel
theorem dX6_digest_196 : decode cX6_digest 196 = .ok (.lload_n 1, 1) := by decide +kernel
theorem dX6_digest_197 : decode cX6_digest 197 = .ok (.ldc2_w 220, 3) := by decide +kernel
theorem dX6_digest_200 : decode cX6_digest 200 = .ok (.lmul, 1) := by decide +kernel
theorem dX6_digest_201 : decode cX6_digest 201 = .ok (.aload_n 0, 1) := by decide +kernel
theorem dX6_digest_202 : decode cX6_digest 202 = .ok (.iload_n 3, 1) := by decide +kernel
theorem dX6_digest_203 : decode cX6_digest 203 = .ok (.invokevirtual 252, 3) := by decide +kernel
theorem dX6_digest_206 : decode cX6_digest 206 = .ok (.i2l, 1) := by decide +kernel
theorem dX6_digest_207 : decode cX6_digest 207 = .ok (.ladd, 1) := by decide +kernel
theorem dX6_digest_208 : decode cX6_digest 208 = .ok (.lstore_n 1, 1) := by decide +kernel
theorem dX6_digest_209 : decode cX6_digest 209 = .ok (.lload_n 1, 1) := by decide +kernel
theorem dX6_digest_210 : decode cX6_digest 210 = .ok (.ldc2_w 220, 3) := by decide +kernel
theorem dX6_digest_213 : decode cX6_digest 213 = .ok (.lmul, 1) := by decide +kernel
theorem dX6_digest_214 : decode cX6_digest 214 = .ok (.aload_n 0, 1) := by decide +kernel
theorem dX6_digest_215 : decode cX6_digest 215 = .ok (.iload_n 3, 1) := by decide +kernel
theorem dX6_digest_216 : decode cX6_digest 216 = .ok (.invokevirtual 255, 3) := by decide +kernel
theorem dX6_digest_219 : decode cX6_digest 219 = .ok (.i2l, 1) := by decide +kernel
theorem dX6_digest_220 : decode cX6_digest 220 = .ok (.ladd, 1) := by decide +kernel
theorem dX6_digest_221 : decode cX6_digest 221 = .ok (.lstore_n 1, 1) := by decide +kernel
theorem dX6_digest_222 : decode cX6_digest 222 = .ok (.iinc 3 1, 3) := by decide +kernel
theorem dX6_digest_225 : decode cX6_digest 225 = .ok (.goto (-35), 3) := by decide +kernel
theorem dX6_digest_228 : decode cX6_digest 228 = .ok (.lload_n 1, 1) := by decide +kernel
theorem dX6_digest_229 : decode cX6_digest 229 = .ok (.lreturn, 1) := by decide +kernel
theorem dX6_digestTask_0 : decode cX6_digestTask 0 = .ok (.lload_n 1, 1) := by decide +kernel
theorem dX6_digestTask_1 : decode cX6_digestTask 1 = .ok (.lstore 4, 2) := by decide +kernel
theorem dX6_digestTask_3 : decode cX6_digestTask 3 = .ok (.lload 4, 2) := by decide +kernel
theorem dX6_digestTask_5 : decode cX6_digestTask 5 = .ok (.ldc2_w 220, 3) := by decide +kernel
theorem dX6_digestTask_8 : decode cX6_digestTask 8 = .ok (.lmul, 1) := by decide +kernel
theorem dX6_digestTask_9 : decode cX6_digestTask 9 = .ok (.aload_n 0, 1) := by decide +kernel
theorem dX6_digestTask_10 : decode cX6_digestTask 10 = .ok (.iload_n 3, 1) := by decide +kernel
theorem dX6_digestTask_11 : decode cX6_digestTask 11 = .ok (.invokevirtual 258, 3) := by decide +kernel
theorem dX6_digestTask_14 : decode cX6_digestTask 14 = .ok (.i2l, 1) := by decide +kernel
theorem dX6_digestTask_15 : decode cX6_digestTask 15 = .ok (.ladd, 1) := by decide +kernel
theorem dX6_digestTask_16 : decode cX6_digestTask 16 = .ok (.lstore 4, 2) := by decide +kernel
theorem dX6_digestTask_18 : decode cX6_digestTask 18 = .ok (.lload 4, 2) := by decide +kernel
theorem dX6_digestTask_20 : decode cX6_digestTask 20 = .ok (.ldc2_w 220, 3) := by decide +kernel
theorem dX6_digestTask_23 : decode cX6_digestTask 23 = .ok (.lmul, 1) := by decide +kernel
theorem dX6_digestTask_24 : decode cX6_digestTask 24 = .ok (.aload_n 0, 1) := by decide +kernel
theorem dX6_digestTask_25 : decode cX6_digestTask 25 = .ok (.iload_n 3, 1) := by decide +kernel
theorem dX6_digestTask_26 : decode cX6_digestTask 26 = .ok (.invokevirtual 261, 3) := by decide +kernel
theorem dX6_digestTask_29 : decode cX6_digestTask 29 = .ok (.i2l, 1) := by decide +kernel
theorem dX6_digestTask_30 : decode cX6_digestTask 30 = .ok (.ladd, 1) := by decide +kernel
theorem dX6_digestTask_31 : decode cX6_digestTask 31 = .ok (.lstore 4, 2) := by decide +kernel
theorem dX6_digestTask_33 : decode cX6_digestTask 33 = .ok (.lload 4, 2) := by decide +kernel
theorem dX6_digestTask_35 : decode cX6_digestTask 35 = .ok (.ldc2_w 220, 3) := by decide +kernel
theorem dX6_digestTask_38 : decode cX6_digestTask 38 = .ok (.lmul, 1) := by decide +kernel
theorem dX6_digestTask_39 : decode cX6_digestTask 39 = .ok (.aload_n 0, 1) := by decide +kernel
theorem dX6_digestTask_40 : decode cX6_digestTask 40 = .ok (.iload_n 3, 1) := by decide +kernel
theorem dX6_digestTask_41 : decode cX6_digestTask 41 = .ok (.invokevirtual 264, 3) := by decide +kernel
theorem dX6_digestTask_44 : decode cX6_digestTask 44 = .ok (.i2l, 1) := by decide +kernel
theorem dX6_digestTask_45 : decode cX6_digestTask 45 = .ok (.ladd, 1) := by decide +kernel
theorem dX6_digestTask_46 : decode cX6_digestTask 46 = .ok (.lstore 4, 2) := by decide +kernel
theorem dX6_digestTask_48 : decode cX6_digestTask 48 = .ok (.lload 4, 2) := by decide +kernel
theorem dX6_digestTask_50 : decode cX6_digestTask 50 = .ok (.ldc2_w 220, 3) := by decide +kernel
theorem dX6_digestTask_53 : decode cX6_digestTask 53 = .ok (.lmul, 1) := by decide +kernel
theorem dX6_digestTask_54 : decode cX6_digestTask 54 = .ok (.aload_n 0, 1) := by decide +kernel
theorem dX6_digestTask_55 : decode cX6_digestTask 55 = .ok (.iload_n 3, 1) := by decide +kernel
theorem dX6_digestTask_56 : decode cX6_digestTask 56 = .ok (.invokevirtual 267, 3) := by decide +kernel
theorem dX6_digestTask_59 : decode cX6_digestTask 59 = .ok (.i2l, 1) := by decide +kernel
theorem dX6_digestTask_60 : decode cX6_digestTask 60 = .ok (.ladd, 1) := by decide +kernel
theorem dX6_digestTask_61 : decode cX6_digestTask 61 = .ok (.lstore 4, 2) := by decide +kernel
theorem dX6_digestTask_63 : decode cX6_digestTask 63 = .ok (.lload 4, 2) := by decide +kernel
theorem dX6_digestTask_65 : decode cX6_digestTask 65 = .ok (.ldc2_w 220, 3) := by decide +kernel
theorem dX6_digestTask_68 : decode cX6_digestTask 68 = .ok (.lmul, 1) := by decide +kernel
theorem dX6_digestTask_69 : decode cX6_digestTask 69 = .ok (.aload_n 0, 1) := by decide +kernel
theorem dX6_digestTask_70 : decode cX6_digestTask 70 = .ok (.iload_n 3, 1) := by decide +kernel
theorem dX6_digestTask_71 : decode cX6_digestTask 71 = .ok (.invokevirtual 270, 3) := by decide +kernel
theorem dX6_digestTask_74 : decode cX6_digestTask 74 = .ok (.i2l, 1) := by decide +kernel
theorem dX6_digestTask_75 : decode cX6_digestTask 75 = .ok (.ladd, 1) := by decide +kernel
theorem dX6_digestTask_76 : decode cX6_digestTask 76 = .ok (.lstore 4, 2) := by decide +kernel
theorem dX6_digestTask_78 : decode cX6_digestTask 78 = .ok (.lload 4, 2) := by decide +kernel
theorem dX6_digestTask_80 : decode cX6_digestTask 80 = .ok (.ldc2_w 220, 3) := by decide +kernel
theorem dX6_digestTask_83 : decode cX6_digestTask 83 = .ok (.lmul, 1) := by decide +kernel
theorem dX6_digestTask_84 : decode cX6_digestTask 84 = .ok (.aload_n 0, 1) := by decide +kernel
theorem dX6_digestTask_85 : decode cX6_digestTask 85 = .ok (.iload_n 3, 1) := by decide +kernel
theorem dX6_digestTask_86 : decode cX6_digestTask 86 = .ok (.invokevirtual 273, 3) := by decide +kernel
theorem dX6_digestTask_89 : decode cX6_digestTask 89 = .ok (.i2l, 1) := by decide +kernel
theorem dX6_digestTask_90 : decode cX6_digestTask 90 = .ok (.ladd, 1) := by decide +kernel
theorem dX6_digestTask_91 : decode cX6_digestTask 91 = .ok (.lstore 4, 2) := by decide +kernel
theorem dX6_digestTask_93 : decode cX6_digestTask 93 = .ok (.lload 4, 2) := by decide +kernel
theorem dX6_digestTask_95 : decode cX6_digestTask 95 = .ok (.ldc2_w 220, 3) := by decide +kernel
theorem dX6_digestTask_98 : decode cX6_digestTask 98 = .ok (.lmul, 1) := by decide +kernel
theorem dX6_digestTask_99 : decode cX6_digestTask 99 = .ok (.aload_n 0, 1) := by decide +kernel
theorem dX6_digestTask_100 : decode cX6_digestTask 100 = .ok (.iload_n 3, 1) := by decide +kernel
theorem dX6_digestTask_101 : decode cX6_digestTask 101 = .ok (.invokevirtual 276, 3) := by decide +kernel
theorem dX6_digestTask_104 : decode cX6_digestTask 104 = .ok (.i2l, 1) := by decide +kernel
theorem dX6_digestTask_105 : decode cX6_digestTask 105 = .ok (.ladd, 1) := by decide +kernel
theorem dX6_digestTask_106 : decode cX6_digestTask 106 = .ok (.lstore 4, 2) := by decide +kernel
theorem dX6_digestTask_108 : decode cX6_digestTask 108 = .ok (.iconst 0, 1) := by decide +kernel
theorem dX6_digestTask_109 : decode cX6_digestTask 109 = .ok (.istore 6, 2) := by decide +kernel
theorem dX6_digestTask_111 : decode cX6_digestTask 111 = .ok (.iload 6, 2) := by decide +kernel
theorem dX6_digestTask_113 : decode cX6_digestTask 113 = .ok (.iconst 5, 1) := by decide +kernel
theorem dX6_digestTask_114 : decode cX6_digestTask 114 = .ok (.if_icmp .ge 26, 3) := by decide +kernel
theorem dX6_digestTask_117 : decode cX6_digestTask 117 = .ok (.lload 4, 2) := by decide +kernel
theorem dX6_digestTask_119 : decode cX6_digestTask 119 = .ok (.ldc2_w 220, 3) := by decide +kernel
theorem dX6_digestTask_122 : decode cX6_digestTask 122 = .ok (.lmul, 1) := by decide +kernel
theorem dX6_digestTask_123 : decode cX6_digestTask 123 = .ok (.aload_n 0, 1) := by decide +kernel
theorem dX6_digestTask_124 : decode cX6_digestTask 124 = .ok (.iload_n 3, 1) := by decide +kernel
theorem dX6_digestTask_125 : decode cX6_digestTask 125 = .ok (.iload 6, 2) := by decide +kernel
theorem dX6_digestTask_127 : decode cX6_digestTask 127 = .ok (.invokevirtual 279, 3) := by decide +kernel
theorem dX6_digestTask_130 : decode cX6_digestTask 130 = .ok (.i2l, 1) := by decide +kernel
theorem dX6_digestTask_131 : decode cX6_digestTask 131 = .ok (.ladd, 1) := by decide +kernel
theorem dX6_digestTask_132 : decode cX6_digestTask 132 = .ok (.lstore 4, 2) := by decide +kernel
theorem dX6_digestTask_134 : decode cX6_digestTask 134 = .ok (.iinc 6 1, 3) := by decide +kernel
theorem dX6_digestTask_137 : decode cX6_digestTask 137 = .ok (.goto (-26), 3) := by decide +kernel
theorem dX6_digestTask_140 : decode cX6_digestTask 140 = .ok (.lload 4, 2) := by decide +kernel
theorem dX6_digestTask_142 : decode cX6_digestTask 142 = .ok (.lreturn, 1) := by decide +kernel
theorem dX6_digestProcessor_0 : decode cX6_digestProcessor 0 = .ok (.lload_n 1, 1) := by decide +kernel
theorem dX6_digestProcessor_1 : decode cX6_digestProcessor 1 = .ok (.ldc2_w 220, 3) := by decide +kernel
theorem dX6_digestProcessor_4 : decode cX6_digestProcessor 4 = .ok (.lmul, 1) := by decide +kernel
theorem dX6_digestProcessor_5 : decode cX6_digestProcessor 5 = .ok (.aload_n 0, 1) := by decide +kernel
theorem dX6_digestProcessor_6 : decode cX6_digestProcessor 6 = .ok (.iload_n 3, 1) := by decide +kernel
theorem dX6_digestProcessor_7 : decode cX6_digestProcessor 7 = .ok (.invokevirtual 282, 3) := by decide +kernel
theorem dX6_digestProcessor_10 : decode cX6_digestProcessor 10 = .ok (.i2l, 1) := by decide +kernel
theorem dX6_digestProcessor_11 : decode cX6_digestProcessor 11 = .ok (.ladd, 1) := by decide +kernel
theorem dX6_digestProcessor_12 : decode cX6_digestProcessor 12 = .ok (.lstore 4, 2) := by decide +kernel
theorem dX6_digestProcessor_14 : decode cX6_digestProcessor 14 = .ok (.iconst 1, 1) := by decide +kernel
theorem dX6_digestProcessor_15 : decode cX6_digestProcessor 15 = .ok (.istore 6, 2) := by decide +kernel
theorem dX6_digestProcessor_17 : decode cX6_digestProcessor 17 = .ok (.iload 6, 2) := by decide +kernel
theorem dX6_digestProcessor_19 : decode cX6_digestProcessor 19 = .ok (.iconst 5, 1) := by decide +kernel
theorem dX6_digestProcessor_20 : decode cX6_digestProcessor 20 = .ok (.if_icmp .gt 26, 3) := by decide +kernel
theorem dX6_digestProcessor_23 : decode cX6_digestProcessor 23 = .ok (.lload 4, 2) := by decide +kernel
theorem dX6_digestProcessor_25 : decode cX6_digestProcessor 25 = .ok (.ldc2_w 220, 3) := by decide +kernel
theorem dX6_digestProcessor_28 : decode cX6_digestProcessor 28 = .ok (.lmul, 1) := by decide +kernel
theorem dX6_digestProcessor_29 : decode cX6_digestProcessor 29 = .ok (.aload_n 0, 1) := by decide +kernel
theorem dX6_digestProcessor_30 : decode cX6_digestProcessor 30 = .ok (.iload_n 3, 1) := by decide +kernel
theorem dX6_digestProcessor_31 : decode cX6_digestProcessor 31 = .ok (.iload 6, 2) := by decide +kernel
theorem dX6_digestProcessor_33 : decode cX6_digestProcessor 33 = .ok (.invokevirtual 285, 3) := by decide +kernel
theorem dX6_digestProcessor_36 : decode cX6_digestProcessor 36 = .ok (.i2l, 1) := by decide +kernel
theorem dX6_digestProcessor_37 : decode cX6_digestProcessor 37 = .ok (.ladd, 1) := by decide +kernel
theorem dX6_digestProcessor_38 : decode cX6_digestProcessor 38 = .ok (.lstore 4, 2) := by decide +kernel
theorem dX6_digestProcessor_40 : decode cX6_digestProcessor 40 = .ok (.iinc 6 1, 3) := by decide +kernel
theorem dX6_digestProcessor_43 : decode cX6_digestProcessor 43 = .ok (.goto (-26), 3) := by decide +kernel
theorem dX6_digestProcessor_46 : decode cX6_digestProcessor 46 = .ok (.lload 4, 2) := by decide +kernel
theorem dX6_digestProcessor_48 : decode cX6_digestProcessor 48 = .ok (.lreturn, 1) := by decide +kernel
theorem dX6_requireArgument_0 : decode cX6_requireArgument 0 = .ok (.iload_n 0, 1) := by decide +kernel
theorem dX6_requireArgument_1 : decode cX6_requireArgument 1 = .ok (.ifCond .ne 14, 3) := by decide +kernel
theorem dX6_requireArgument_4 : decode cX6_requireArgument 4 = .ok (.new 288, 3) := by decide +kernel
theorem dX6_requireArgument_7 : decode cX6_requireArgument 7 = .ok (.dup, 1) := by decide +kernel
theorem dX6_requireArgument_8 : decode cX6_requireArgument 8 = .ok (.ldc_w 290, 3) := by decide +kernel
theorem dX6_requireArgument_11 : decode cX6_requireArgument 11 = .ok (.invokespecial 292, 3) := by decide +kernel
theorem dX6_requireArgument_14 : decode cX6_requireArgument 14 = .ok (.athrow, 1) := by decide +kernel
theorem dX6_requireArgument_15 : decode cX6_requireArgument 15 = .ok (.return_, 1) := by decide +kernel
theorem dX6_requireState_0 : decode cX6_requireState 0 = .ok (.iload_n 0, 1) := by decide +kernel
theorem dX6_requireState_1 : decode cX6_requireState 1 = .ok (.ifCond .ne 14, 3) := by decide +kernel
theorem dX6_requireState_4 : decode cX6_requireState 4 = .ok (.new 66, 3) := by decide +kernel
theorem dX6_requireState_7 : decode cX6_requireState 7 = .ok (.dup, 1) := by decide +kernel
theorem dX6_requireState_8 : decode cX6_requireState 8 = .ok (.ldc_w 293, 3) := by decide +kernel
theorem dX6_requireState_11 : decode cX6_requireState 11 = .ok (.invokespecial 70, 3) := by decide +kernel
theorem dX6_requireState_14 : decode cX6_requireState 14 = .ok (.athrow, 1) := by decide +kernel
theorem dX6_requireState_15 : decode cX6_requireState 15 = .ok (.return_, 1) := by decide +kernel
theorem dX6_requireTicksTried_0 : decode cX6_requireTicksTried 0 = .ok (.iload_n 0, 1) := by decide +kernel
theorem dX6_requireTicksTried_1 : decode cX6_requireTicksTried 1 = .ok (.iconst 1, 1) := by decide +kernel
theorem dX6_requireTicksTried_2 : decode cX6_requireTicksTried 2 = .ok (.if_icmp .lt 13, 3) := by decide +kernel
theorem dX6_requireTicksTried_5 : decode cX6_requireTicksTried 5 = .ok (.iload_n 0, 1) := by decide +kernel
theorem dX6_requireTicksTried_6 : decode cX6_requireTicksTried 6 = .ok (.bipush 60, 2) := by decide +kernel
theorem dX6_requireTicksTried_8 : decode cX6_requireTicksTried 8 = .ok (.if_icmp .gt 7, 3) := by decide +kernel
theorem dX6_requireTicksTried_11 : decode cX6_requireTicksTried 11 = .ok (.iconst 1, 1) := by decide +kernel
theorem dX6_requireTicksTried_12 : decode cX6_requireTicksTried 12 = .ok (.goto 4, 3) := by decide +kernel
theorem dX6_requireTicksTried_15 : decode cX6_requireTicksTried 15 = .ok (.iconst 0, 1) := by decide +kernel
theorem dX6_requireTicksTried_16 : decode cX6_requireTicksTried 16 = .ok (.invokestatic 19, 3) := by decide +kernel
theorem dX6_requireTicksTried_19 : decode cX6_requireTicksTried 19 = .ok (.return_, 1) := by decide +kernel
theorem dX6_requireLock_0 : decode cX6_requireLock 0 = .ok (.iload_n 0, 1) := by decide +kernel
theorem dX6_requireLock_1 : decode cX6_requireLock 1 = .ok (.ifCond .lt 9, 3) := by decide +kernel
theorem dX6_requireLock_4 : decode cX6_requireLock 4 = .ok (.iload_n 0, 1) := by decide +kernel
theorem dX6_requireLock_5 : decode cX6_requireLock 5 = .ok (.bipush 6, 2) := by decide +kernel
theorem dX6_requireLock_7 : decode cX6_requireLock 7 = .ok (.if_icmp .lt 14, 3) := by decide +kernel
theorem dX6_requireLock_10 : decode cX6_requireLock 10 = .ok (.new 49, 3) := by decide +kernel
theorem dX6_requireLock_13 : decode cX6_requireLock 13 = .ok (.dup, 1) := by decide +kernel
theorem dX6_requireLock_14 : decode cX6_requireLock 14 = .ok (.ldc_w 295, 3) := by decide +kernel
theorem dX6_requireLock_17 : decode cX6_requireLock 17 = .ok (.invokespecial 53, 3) := by decide +kernel
theorem dX6_requireLock_20 : decode cX6_requireLock 20 = .ok (.athrow, 1) := by decide +kernel
theorem dX6_requireLock_21 : decode cX6_requireLock 21 = .ok (.return_, 1) := by decide +kernel
theorem dX6_requireEvent_0 : decode cX6_requireEvent 0 = .ok (.iload_n 0, 1) := by decide +kernel
theorem dX6_requireEvent_1 : decode cX6_requireEvent 1 = .ok (.ifCond .lt 9, 3) := by decide +kernel
theorem dX6_requireEvent_4 : decode cX6_requireEvent 4 = .ok (.iload_n 0, 1) := by decide +kernel
theorem dX6_requireEvent_5 : decode cX6_requireEvent 5 = .ok (.bipush 6, 2) := by decide +kernel
theorem dX6_requireEvent_7 : decode cX6_requireEvent 7 = .ok (.if_icmp .lt 14, 3) := by decide +kernel
theorem dX6_requireEvent_10 : decode cX6_requireEvent 10 = .ok (.new 49, 3) := by decide +kernel
theorem dX6_requireEvent_13 : decode cX6_requireEvent 13 = .ok (.dup, 1) := by decide +kernel
theorem dX6_requireEvent_14 : decode cX6_requireEvent 14 = .ok (.ldc_w 297, 3) := by decide +kernel
theorem dX6_requireEvent_17 : decode cX6_requireEvent 17 = .ok (.invokespecial 53, 3) := by decide +kernel
theorem dX6_requireEvent_20 : decode cX6_requireEvent 20 = .ok (.athrow, 1) := by decide +kernel
theorem dX6_requireEvent_21 : decode cX6_requireEvent 21 = .ok (.return_, 1) := by decide +kernel
theorem dX6_requireProcessor_0 : decode cX6_requireProcessor 0 = .ok (.iload_n 1, 1) := by decide +kernel
theorem dX6_requireProcessor_1 : decode cX6_requireProcessor 1 = .ok (.ifCond .lt 17, 3) := by decide +kernel
theorem dX6_requireProcessor_4 : decode cX6_requireProcessor 4 = .ok (.iload_n 1, 1) := by decide +kernel
theorem dX6_requireProcessor_5 : decode cX6_requireProcessor 5 = .ok (.aload_n 0, 1) := by decide +kernel
theorem dX6_requireProcessor_6 : decode cX6_requireProcessor 6 = .ok (.getfield 10, 3) := by decide +kernel
theorem dX6_requireProcessor_9 : decode cX6_requireProcessor 9 = .ok (.getfield 23, 3) := by decide +kernel
theorem dX6_requireProcessor_12 : decode cX6_requireProcessor 12 = .ok (.getfield 27, 3) := by decide +kernel
theorem dX6_requireProcessor_15 : decode cX6_requireProcessor 15 = .ok (.if_icmp .lt 14, 3) := by decide +kernel
theorem dX6_requireProcessor_18 : decode cX6_requireProcessor 18 = .ok (.new 49, 3) := by decide +kernel
theorem dX6_requireProcessor_21 : decode cX6_requireProcessor 21 = .ok (.dup, 1) := by decide +kernel
theorem dX6_requireProcessor_22 : decode cX6_requireProcessor 22 = .ok (.ldc_w 299, 3) := by decide +kernel
theorem dX6_requireProcessor_25 : decode cX6_requireProcessor 25 = .ok (.invokespecial 53, 3) := by decide +kernel
theorem dX6_requireProcessor_28 : decode cX6_requireProcessor 28 = .ok (.athrow, 1) := by decide +kernel
theorem dX6_requireProcessor_29 : decode cX6_requireProcessor 29 = .ok (.return_, 1) := by decide +kernel
theorem dX6_requireTask_0 : decode cX6_requireTask 0 = .ok (.aload_n 0, 1) := by decide +kernel
theorem dX6_requireTask_1 : decode cX6_requireTask 1 = .ok (.getfield 10, 3) := by decide +kernel
theorem dX6_requireTask_4 : decode cX6_requireTask 4 = .ok (.iload_n 1, 1) := by decide +kernel
theorem dX6_requireTask_5 : decode cX6_requireTask 5 = .ok (.invokevirtual 62, 3) := by decide +kernel
theorem dX6_requireTask_8 : decode cX6_requireTask 8 = .ok (.astore_n 2, 1) := by decide +kernel
theorem dX6_requireTask_9 : decode cX6_requireTask 9 = .ok (.aload_n 2, 1) := by decide +kernel
theorem dX6_requireTask_10 : decode cX6_requireTask 10 = .ok (.ifnull 14, 3) := by decide +kernel
theorem dX6_requireTask_13 : decode cX6_requireTask 13 = .ok (.iload_n 1, 1) := by decide +kernel
theorem dX6_requireTask_14 : decode cX6_requireTask 14 = .ok (.aload_n 0, 1) := by decide +kernel
theorem dX6_requireTask_15 : decode cX6_requireTask 15 = .ok (.getfield 10, 3) := by decide +kernel
theorem dX6_requireTask_18 : decode cX6_requireTask 18 = .ok (.getfield 59, 3) := by decide +kernel
theorem dX6_requireTask_21 : decode cX6_requireTask 21 = .ok (.if_icmp .lt 14, 3) := by decide +kernel
theorem dX6_requireTask_24 : decode cX6_requireTask 24 = .ok (.new 49, 3) := by decide +kernel
theorem dX6_requireTask_27 : decode cX6_requireTask 27 = .ok (.dup, 1) := by decide +kernel
theorem dX6_requireTask_28 : decode cX6_requireTask 28 = .ok (.ldc_w 301, 3) := by decide +kernel
theorem dX6_requireTask_31 : decode cX6_requireTask 31 = .ok (.invokespecial 53, 3) := by decide +kernel
theorem dX6_requireTask_34 : decode cX6_requireTask 34 = .ok (.athrow, 1) := by decide +kernel
theorem dX6_requireTask_35 : decode cX6_requireTask 35 = .ok (.aload_n 2, 1) := by decide +kernel
theorem dX6_requireTask_36 : decode cX6_requireTask 36 = .ok (.areturn, 1) := by decide +kernel
theorem dX6_isStep_0 : decode cX6_isStep 0 = .ok (.iload_n 0, 1) := by decide +kernel
theorem dX6_isStep_1 : decode cX6_isStep 1 = .ok (.tableswitch 105 0 5 #[39, 56, 73, 73, 89, 89], 39) := by decide +kernel
theorem dX6_isStep_40 : decode cX6_isStep 40 = .ok (.iload_n 1, 1) := by decide +kernel
theorem dX6_isStep_41 : decode cX6_isStep 41 = .ok (.iconst 1, 1) := by decide +kernel
theorem dX6_isStep_42 : decode cX6_isStep 42 = .ok (.if_icmp .lt 13, 3) := by decide +kernel
theorem dX6_isStep_45 : decode cX6_isStep 45 = .ok (.iload_n 1, 1) := by decide +kernel
theorem dX6_isStep_46 : decode cX6_isStep 46 = .ok (.bipush 20, 2) := by decide +kernel
theorem dX6_isStep_48 : decode cX6_isStep 48 = .ok (.if_icmp .gt 7, 3) := by decide +kernel
theorem dX6_isStep_51 : decode cX6_isStep 51 = .ok (.iconst 1, 1) := by decide +kernel
theorem dX6_isStep_52 : decode cX6_isStep 52 = .ok (.goto 4, 3) := by decide +kernel
theorem dX6_isStep_55 : decode cX6_isStep 55 = .ok (.iconst 0, 1) := by decide +kernel
theorem dX6_isStep_56 : decode cX6_isStep 56 = .ok (.ireturn, 1) := by decide +kernel
theorem dX6_isStep_57 : decode cX6_isStep 57 = .ok (.iload_n 1, 1) := by decide +kernel
theorem dX6_isStep_58 : decode cX6_isStep 58 = .ok (.iconst 1, 1) := by decide +kernel
theorem dX6_isStep_59 : decode cX6_isStep 59 = .ok (.if_icmp .lt 13, 3) := by decide +kernel
theorem dX6_isStep_62 : decode cX6_isStep 62 = .ok (.iload_n 1, 1) := by decide +kernel
theorem dX6_isStep_63 : decode cX6_isStep 63 = .ok (.bipush 40, 2) := by decide +kernel
theorem dX6_isStep_65 : decode cX6_isStep 65 = .ok (.if_icmp .gt 7, 3) := by decide +kernel
theorem dX6_isStep_68 : decode cX6_isStep 68 = .ok (.iconst 1, 1) := by decide +kernel
theorem dX6_isStep_69 : decode cX6_isStep 69 = .ok (.goto 4, 3) := by decide +kernel
theorem dX6_isStep_72 : decode cX6_isStep 72 = .ok (.iconst 0, 1) := by decide +kernel
theorem dX6_isStep_73 : decode cX6_isStep 73 = .ok (.ireturn, 1) := by decide +kernel
theorem dX6_isStep_74 : decode cX6_isStep 74 = .ok (.iload_n 1, 1) := by decide +kernel
theorem dX6_isStep_75 : decode cX6_isStep 75 = .ok (.ifCond .lt 13, 3) := by decide +kernel
theorem dX6_isStep_78 : decode cX6_isStep 78 = .ok (.iload_n 1, 1) := by decide +kernel
theorem dX6_isStep_79 : decode cX6_isStep 79 = .ok (.bipush 6, 2) := by decide +kernel
theorem dX6_isStep_81 : decode cX6_isStep 81 = .ok (.if_icmp .ge 7, 3) := by decide +kernel
theorem dX6_isStep_84 : decode cX6_isStep 84 = .ok (.iconst 1, 1) := by decide +kernel
theorem dX6_isStep_85 : decode cX6_isStep 85 = .ok (.goto 4, 3) := by decide +kernel
theorem dX6_isStep_88 : decode cX6_isStep 88 = .ok (.iconst 0, 1) := by decide +kernel
theorem dX6_isStep_89 : decode cX6_isStep 89 = .ok (.ireturn, 1) := by decide +kernel
theorem dX6_isStep_90 : decode cX6_isStep 90 = .ok (.iload_n 1, 1) := by decide +kernel
theorem dX6_isStep_91 : decode cX6_isStep 91 = .ok (.ifCond .lt 13, 3) := by decide +kernel
theorem dX6_isStep_94 : decode cX6_isStep 94 = .ok (.iload_n 1, 1) := by decide +kernel
theorem dX6_isStep_95 : decode cX6_isStep 95 = .ok (.bipush 6, 2) := by decide +kernel
theorem dX6_isStep_97 : decode cX6_isStep 97 = .ok (.if_icmp .ge 7, 3) := by decide +kernel
theorem dX6_isStep_100 : decode cX6_isStep 100 = .ok (.iconst 1, 1) := by decide +kernel
theorem dX6_isStep_101 : decode cX6_isStep 101 = .ok (.goto 4, 3) := by decide +kernel
theorem dX6_isStep_104 : decode cX6_isStep 104 = .ok (.iconst 0, 1) := by decide +kernel
theorem dX6_isStep_105 : decode cX6_isStep 105 = .ok (.ireturn, 1) := by decide +kernel
theorem dX6_isStep_106 : decode cX6_isStep 106 = .ok (.iload_n 0, 1) := by decide +kernel
theorem dX6_isStep_107 : decode cX6_isStep 107 = .ok (.bipush 6, 2) := by decide +kernel
theorem dX6_isStep_109 : decode cX6_isStep 109 = .ok (.if_icmp .ne 7, 3) := by decide +kernel
theorem dX6_isStep_112 : decode cX6_isStep 112 = .ok (.iconst 1, 1) := by decide +kernel
theorem dX6_isStep_113 : decode cX6_isStep 113 = .ok (.goto 4, 3) := by decide +kernel
theorem dX6_isStep_116 : decode cX6_isStep 116 = .ok (.iconst 0, 1) := by decide +kernel
theorem dX6_isStep_117 : decode cX6_isStep 117 = .ok (.ireturn, 1) := by decide +kernel
