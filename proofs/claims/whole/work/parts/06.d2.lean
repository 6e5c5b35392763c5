theorem d_C_init_0 : decode c_C_init 0 = .ok (.aload_n 0, 1) := by decide +kernel
theorem d_C_init_1 : decode c_C_init 1 = .ok (.invokespecial 3, 3) := by decide +kernel
theorem d_C_init_4 : decode c_C_init 4 = .ok (.aload_n 0, 1) := by decide +kernel
theorem d_C_init_5 : decode c_C_init 5 = .ok (.iconst 4, 1) := by decide +kernel
theorem d_C_init_6 : decode c_C_init 6 = .ok (.newarray .int, 2) := by decide +kernel
theorem d_C_init_8 : decode c_C_init 8 = .ok (.putfield 9, 3) := by decide +kernel
theorem d_C_init_11 : decode c_C_init 11 = .ok (.aload_n 0, 1) := by decide +kernel
theorem d_C_init_12 : decode c_C_init 12 = .ok (.iconst 4, 1) := by decide +kernel
theorem d_C_init_13 : decode c_C_init 13 = .ok (.newarray .int, 2) := by decide +kernel
theorem d_C_init_15 : decode c_C_init 15 = .ok (.putfield 15, 3) := by decide +kernel
theorem d_C_init_18 : decode c_C_init 18 = .ok (.aload_n 0, 1) := by decide +kernel
theorem d_C_init_19 : decode c_C_init 19 = .ok (.iconst 4, 1) := by decide +kernel
theorem d_C_init_20 : decode c_C_init 20 = .ok (.newarray .int, 2) := by decide +kernel
theorem d_C_init_22 : decode c_C_init 22 = .ok (.putfield 18, 3) := by decide +kernel
theorem d_C_init_25 : decode c_C_init 25 = .ok (.aload_n 0, 1) := by decide +kernel
theorem d_C_init_26 : decode c_C_init 26 = .ok (.iconst 0, 1) := by decide +kernel
theorem d_C_init_27 : decode c_C_init 27 = .ok (.putfield 21, 3) := by decide +kernel
theorem d_C_init_30 : decode c_C_init 30 = .ok (.aload_n 0, 1) := by decide +kernel
theorem d_C_init_31 : decode c_C_init 31 = .ok (.iconst 0, 1) := by decide +kernel
theorem d_C_init_32 : decode c_C_init 32 = .ok (.putfield 25, 3) := by decide +kernel
theorem d_C_init_35 : decode c_C_init 35 = .ok (.aload_n 0, 1) := by decide +kernel
theorem d_C_init_36 : decode c_C_init 36 = .ok (.iconst 0, 1) := by decide +kernel
theorem d_C_init_37 : decode c_C_init 37 = .ok (.putfield 29, 3) := by decide +kernel
theorem d_C_init_40 : decode c_C_init 40 = .ok (.aload_n 0, 1) := by decide +kernel
theorem d_C_init_41 : decode c_C_init 41 = .ok (.iconst 0, 1) := by decide +kernel
theorem d_C_init_42 : decode c_C_init 42 = .ok (.putfield 32, 3) := by decide +kernel
theorem d_C_init_45 : decode c_C_init 45 = .ok (.aload_n 0, 1) := by decide +kernel
theorem d_C_init_46 : decode c_C_init 46 = .ok (.iconst 0, 1) := by decide +kernel
theorem d_C_init_47 : decode c_C_init 47 = .ok (.putfield 35, 3) := by decide +kernel
theorem d_C_init_50 : decode c_C_init 50 = .ok (.aload_n 0, 1) := by decide +kernel
theorem d_C_init_51 : decode c_C_init 51 = .ok (.iload_n 1, 1) := by decide +kernel
theorem d_C_init_52 : decode c_C_init 52 = .ok (.putfield 38, 3) := by decide +kernel
theorem d_C_init_55 : decode c_C_init 55 = .ok (.aload_n 0, 1) := by decide +kernel
theorem d_C_init_56 : decode c_C_init 56 = .ok (.aload_n 2, 1) := by decide +kernel
theorem d_C_init_57 : decode c_C_init 57 = .ok (.putfield 41, 3) := by decide +kernel
theorem d_C_init_60 : decode c_C_init 60 = .ok (.return_, 1) := by decide +kernel
theorem d_C_start_0 : decode c_C_start 0 = .ok (.aload_n 0, 1) := by decide +kernel
theorem d_C_start_1 : decode c_C_start 1 = .ok (.getfield 21, 3) := by decide +kernel
theorem d_C_start_4 : decode c_C_start 4 = .ok (.ifCond .ne 11, 3) := by decide +kernel
theorem d_C_start_7 : decode c_C_start 7 = .ok (.aload_n 0, 1) := by decide +kernel
theorem d_C_start_8 : decode c_C_start 8 = .ok (.iload_n 2, 1) := by decide +kernel
theorem d_C_start_9 : decode c_C_start 9 = .ok (.invokevirtual 45, 3) := by decide +kernel
theorem d_C_start_12 : decode c_C_start 12 = .ok (.ifCond .ne 6, 3) := by decide +kernel
theorem d_C_start_15 : decode c_C_start 15 = .ok (.bipush (-2), 2) := by decide +kernel
theorem d_C_start_17 : decode c_C_start 17 = .ok (.ireturn, 1) := by decide +kernel
theorem d_C_start_18 : decode c_C_start 18 = .ok (.aload_n 0, 1) := by decide +kernel
theorem d_C_start_19 : decode c_C_start 19 = .ok (.iload_n 1, 1) := by decide +kernel
theorem d_C_start_20 : decode c_C_start 20 = .ok (.putfield 25, 3) := by decide +kernel
theorem d_C_start_23 : decode c_C_start 23 = .ok (.aload_n 0, 1) := by decide +kernel
theorem d_C_start_24 : decode c_C_start 24 = .ok (.iload_n 3, 1) := by decide +kernel
theorem d_C_start_25 : decode c_C_start 25 = .ok (.putfield 29, 3) := by decide +kernel
theorem d_C_start_28 : decode c_C_start 28 = .ok (.aload_n 0, 1) := by decide +kernel
theorem d_C_start_29 : decode c_C_start 29 = .ok (.iload_n 2, 1) := by decide +kernel
theorem d_C_start_30 : decode c_C_start 30 = .ok (.invokevirtual 49, 3) := by decide +kernel
theorem d_C_start_33 : decode c_C_start 33 = .ok (.ifCond .eq 10, 3) := by decide +kernel
theorem d_C_start_36 : decode c_C_start 36 = .ok (.aload_n 0, 1) := by decide +kernel
theorem d_C_start_37 : decode c_C_start 37 = .ok (.iload_n 2, 1) := by decide +kernel
theorem d_C_start_38 : decode c_C_start 38 = .ok (.invokevirtual 52, 3) := by decide +kernel
theorem d_C_start_41 : decode c_C_start 41 = .ok (.iconst 1, 1) := by decide +kernel
theorem d_C_start_42 : decode c_C_start 42 = .ok (.ireturn, 1) := by decide +kernel
theorem d_C_start_43 : decode c_C_start 43 = .ok (.aload_n 0, 1) := by decide +kernel
theorem d_C_start_44 : decode c_C_start 44 = .ok (.iload_n 2, 1) := by decide +kernel
theorem d_C_start_45 : decode c_C_start 45 = .ok (.invokevirtual 56, 3) := by decide +kernel
theorem d_C_start_48 : decode c_C_start 48 = .ok (.iconst 0, 1) := by decide +kernel
theorem d_C_start_49 : decode c_C_start 49 = .ok (.ireturn, 1) := by decide +kernel
theorem d_C_giveUp_0 : decode c_C_giveUp 0 = .ok (.aload_n 0, 1) := by decide +kernel
theorem d_C_giveUp_1 : decode c_C_giveUp 1 = .ok (.iload_n 1, 1) := by decide +kernel
theorem d_C_giveUp_2 : decode c_C_giveUp 2 = .ok (.invokevirtual 45, 3) := by decide +kernel
theorem d_C_giveUp_5 : decode c_C_giveUp 5 = .ok (.ifCond .ne 6, 3) := by decide +kernel
theorem d_C_giveUp_8 : decode c_C_giveUp 8 = .ok (.bipush (-2), 2) := by decide +kernel
theorem d_C_giveUp_10 : decode c_C_giveUp 10 = .ok (.ireturn, 1) := by decide +kernel
theorem d_C_giveUp_11 : decode c_C_giveUp 11 = .ok (.aload_n 0, 1) := by decide +kernel
theorem d_C_giveUp_12 : decode c_C_giveUp 12 = .ok (.getfield 9, 3) := by decide +kernel
theorem d_C_giveUp_15 : decode c_C_giveUp 15 = .ok (.iload_n 1, 1) := by decide +kernel
theorem d_C_giveUp_16 : decode c_C_giveUp 16 = .ok (.iaload, 1) := by decide +kernel
theorem d_C_giveUp_17 : decode c_C_giveUp 17 = .ok (.tableswitch 65 1 3 #[27, 38, 49], 27) := by decide +kernel
theorem d_C_giveUp_44 : decode c_C_giveUp 44 = .ok (.aload_n 0, 1) := by decide +kernel
theorem d_C_giveUp_45 : decode c_C_giveUp 45 = .ok (.iconst 2, 1) := by decide +kernel
theorem d_C_giveUp_46 : decode c_C_giveUp 46 = .ok (.iload_n 1, 1) := by decide +kernel
theorem d_C_giveUp_47 : decode c_C_giveUp 47 = .ok (.iconst 0, 1) := by decide +kernel
theorem d_C_giveUp_48 : decode c_C_giveUp 48 = .ok (.bipush 11, 2) := by decide +kernel
theorem d_C_giveUp_50 : decode c_C_giveUp 50 = .ok (.invokevirtual 59, 3) := by decide +kernel
theorem d_C_giveUp_53 : decode c_C_giveUp 53 = .ok (.iconst 1, 1) := by decide +kernel
theorem d_C_giveUp_54 : decode c_C_giveUp 54 = .ok (.ireturn, 1) := by decide +kernel
theorem d_C_giveUp_55 : decode c_C_giveUp 55 = .ok (.aload_n 0, 1) := by decide +kernel
theorem d_C_giveUp_56 : decode c_C_giveUp 56 = .ok (.iconst 3, 1) := by decide +kernel
theorem d_C_giveUp_57 : decode c_C_giveUp 57 = .ok (.iload_n 1, 1) := by decide +kernel
theorem d_C_giveUp_58 : decode c_C_giveUp 58 = .ok (.iconst 0, 1) := by decide +kernel
theorem d_C_giveUp_59 : decode c_C_giveUp 59 = .ok (.bipush 10, 2) := by decide +kernel
theorem d_C_giveUp_61 : decode c_C_giveUp 61 = .ok (.invokevirtual 59, 3) := by decide +kernel
theorem d_C_giveUp_64 : decode c_C_giveUp 64 = .ok (.iconst 1, 1) := by decide +kernel
theorem d_C_giveUp_65 : decode c_C_giveUp 65 = .ok (.ireturn, 1) := by decide +kernel
theorem d_C_giveUp_66 : decode c_C_giveUp 66 = .ok (.aload_n 0, 1) := by decide +kernel
theorem d_C_giveUp_67 : decode c_C_giveUp 67 = .ok (.iconst 4, 1) := by decide +kernel
theorem d_C_giveUp_68 : decode c_C_giveUp 68 = .ok (.iload_n 1, 1) := by decide +kernel
theorem d_C_giveUp_69 : decode c_C_giveUp 69 = .ok (.aload_n 0, 1) := by decide +kernel
theorem d_C_giveUp_70 : decode c_C_giveUp 70 = .ok (.getfield 15, 3) := by decide +kernel
theorem d_C_giveUp_73 : decode c_C_giveUp 73 = .ok (.iload_n 1, 1) := by decide +kernel
theorem d_C_giveUp_74 : decode c_C_giveUp 74 = .ok (.iaload, 1) := by decide +kernel
theorem d_C_giveUp_75 : decode c_C_giveUp 75 = .ok (.bipush 9, 2) := by decide +kernel
theorem d_C_giveUp_77 : decode c_C_giveUp 77 = .ok (.invokevirtual 59, 3) := by decide +kernel
theorem d_C_giveUp_80 : decode c_C_giveUp 80 = .ok (.iconst 1, 1) := by decide +kernel
theorem d_C_giveUp_81 : decode c_C_giveUp 81 = .ok (.ireturn, 1) := by decide +kernel
theorem d_C_giveUp_82 : decode c_C_giveUp 82 = .ok (.iconst 0, 1) := by decide +kernel
theorem d_C_giveUp_83 : decode c_C_giveUp 83 = .ok (.ireturn, 1) := by decide +kernel
theorem d_C_stalls_0 : decode c_C_stalls 0 = .ok (.iload_n 1, 1) := by decide +kernel
theorem d_C_stalls_1 : decode c_C_stalls 1 = .ok (.tableswitch 70 5 7 #[27, 27, 54], 27) := by decide +kernel
theorem d_C_stalls_28 : decode c_C_stalls 28 = .ok (.aload_n 0, 1) := by decide +kernel
theorem d_C_stalls_29 : decode c_C_stalls 29 = .ok (.getfield 9, 3) := by decide +kernel
theorem d_C_stalls_32 : decode c_C_stalls 32 = .ok (.iload_n 2, 1) := by decide +kernel
theorem d_C_stalls_33 : decode c_C_stalls 33 = .ok (.iaload, 1) := by decide +kernel
theorem d_C_stalls_34 : decode c_C_stalls 34 = .ok (.iconst 4, 1) := by decide +kernel
theorem d_C_stalls_35 : decode c_C_stalls 35 = .ok (.if_icmp .lt 18, 3) := by decide +kernel
theorem d_C_stalls_38 : decode c_C_stalls 38 = .ok (.aload_n 0, 1) := by decide +kernel
theorem d_C_stalls_39 : decode c_C_stalls 39 = .ok (.getfield 9, 3) := by decide +kernel
theorem d_C_stalls_42 : decode c_C_stalls 42 = .ok (.iload_n 2, 1) := by decide +kernel
theorem d_C_stalls_43 : decode c_C_stalls 43 = .ok (.iaload, 1) := by decide +kernel
theorem d_C_stalls_44 : decode c_C_stalls 44 = .ok (.bipush 8, 2) := by decide +kernel
theorem d_C_stalls_46 : decode c_C_stalls 46 = .ok (.if_icmp .gt 7, 3) := by decide +kernel
theorem d_C_stalls_49 : decode c_C_stalls 49 = .ok (.iconst 1, 1) := by decide +kernel
theorem d_C_stalls_50 : decode c_C_stalls 50 = .ok (.goto 4, 3) := by decide +kernel
theorem d_C_stalls_53 : decode c_C_stalls 53 = .ok (.iconst 0, 1) := by decide +kernel
theorem d_C_stalls_54 : decode c_C_stalls 54 = .ok (.ireturn, 1) := by decide +kernel
theorem d_C_stalls_55 : decode c_C_stalls 55 = .ok (.aload_n 0, 1) := by decide +kernel
theorem d_C_stalls_56 : decode c_C_stalls 56 = .ok (.getfield 9, 3) := by decide +kernel
theorem d_C_stalls_59 : decode c_C_stalls 59 = .ok (.iload_n 2, 1) := by decide +kernel
theorem d_C_stalls_60 : decode c_C_stalls 60 = .ok (.iaload, 1) := by decide +kernel
theorem d_C_stalls_61 : decode c_C_stalls 61 = .ok (.iconst 4, 1) := by decide +kernel
theorem d_C_stalls_62 : decode c_C_stalls 62 = .ok (.if_icmp .ne 7, 3) := by decide +kernel
theorem d_C_stalls_65 : decode c_C_stalls 65 = .ok (.iconst 1, 1) := by decide +kernel
theorem d_C_stalls_66 : decode c_C_stalls 66 = .ok (.goto 4, 3) := by decide +kernel
theorem d_C_stalls_69 : decode c_C_stalls 69 = .ok (.iconst 0, 1) := by decide +kernel
theorem d_C_stalls_70 : decode c_C_stalls 70 = .ok (.ireturn, 1) := by decide +kernel
theorem d_C_stalls_71 : decode c_C_stalls 71 = .ok (.iconst 0, 1) := by decide +kernel
theorem d_C_stalls_72 : decode c_C_stalls 72 = .ok (.ireturn, 1) := by decide +kernel
theorem d_C_take_0 : decode c_C_take 0 = .ok (.aload_n 0, 1) := by decide +kernel
theorem d_C_take_1 : decode c_C_take 1 = .ok (.getfield 41, 3) := by decide +kernel
theorem d_C_take_4 : decode c_C_take 4 = .ok (.iload_n 1, 1) := by decide +kernel
theorem d_C_take_5 : decode c_C_take 5 = .ok (.iconst 1, 1) := by decide +kernel
theorem d_C_take_6 : decode c_C_take 6 = .ok (.invokevirtual 63, 3) := by decide +kernel
theorem d_C_take_9 : decode c_C_take 9 = .ok (.istore_n 2, 1) := by decide +kernel
theorem d_C_take_10 : decode c_C_take 10 = .ok (.aload_n 0, 1) := by decide +kernel
theorem d_C_take_11 : decode c_C_take 11 = .ok (.getfield 41, 3) := by decide +kernel
theorem d_C_take_14 : decode c_C_take 14 = .ok (.iload_n 1, 1) := by decide +kernel
theorem d_C_take_15 : decode c_C_take 15 = .ok (.iconst 4, 1) := by decide +kernel
theorem d_C_take_16 : decode c_C_take 16 = .ok (.invokevirtual 63, 3) := by decide +kernel
theorem d_C_take_19 : decode c_C_take 19 = .ok (.istore_n 3, 1) := by decide +kernel
theorem d_C_take_20 : decode c_C_take 20 = .ok (.aload_n 0, 1) := by decide +kernel
theorem d_C_take_21 : decode c_C_take 21 = .ok (.getfield 41, 3) := by decide +kernel
theorem d_C_take_24 : decode c_C_take 24 = .ok (.iload_n 1, 1) := by decide +kernel
theorem d_C_take_25 : decode c_C_take 25 = .ok (.iconst 0, 1) := by decide +kernel
theorem d_C_take_26 : decode c_C_take 26 = .ok (.invokevirtual 63, 3) := by decide +kernel
theorem d_C_take_29 : decode c_C_take 29 = .ok (.tableswitch 146 5 11 #[43, 52, 61, 70, 80, 107, 138], 43) := by decide +kernel
theorem d_C_take_72 : decode c_C_take 72 = .ok (.aload_n 0, 1) := by decide +kernel
theorem d_C_take_73 : decode c_C_take 73 = .ok (.iload_n 3, 1) := by decide +kernel
theorem d_C_take_74 : decode c_C_take 74 = .ok (.iload_n 2, 1) := by decide +kernel
theorem d_C_take_75 : decode c_C_take 75 = .ok (.invokevirtual 69, 3) := by decide +kernel
theorem d_C_take_78 : decode c_C_take 78 = .ok (.goto 97, 3) := by decide +kernel
theorem d_C_take_81 : decode c_C_take 81 = .ok (.aload_n 0, 1) := by decide +kernel
theorem d_C_take_82 : decode c_C_take 82 = .ok (.iload_n 3, 1) := by decide +kernel
theorem d_C_take_83 : decode c_C_take 83 = .ok (.iload_n 2, 1) := by decide +kernel
theorem d_C_take_84 : decode c_C_take 84 = .ok (.invokevirtual 73, 3) := by decide +kernel
theorem d_C_take_87 : decode c_C_take 87 = .ok (.goto 88, 3) := by decide +kernel
theorem d_C_take_90 : decode c_C_take 90 = .ok (.aload_n 0, 1) := by decide +kernel
theorem d_C_take_91 : decode c_C_take 91 = .ok (.iload_n 3, 1) := by decide +kernel
theorem d_C_take_92 : decode c_C_take 92 = .ok (.iload_n 2, 1) := by decide +kernel
theorem d_C_take_93 : decode c_C_take 93 = .ok (.invokevirtual 76, 3) := by decide +kernel
theorem d_C_take_96 : decode c_C_take 96 = .ok (.goto 79, 3) := by decide +kernel
theorem d_C_take_99 : decode c_C_take 99 = .ok (.aload_n 0, 1) := by decide +kernel
theorem d_C_take_100 : decode c_C_take 100 = .ok (.getfield 9, 3) := by decide +kernel
theorem d_C_take_103 : decode c_C_take 103 = .ok (.iload_n 2, 1) := by decide +kernel
theorem d_C_take_104 : decode c_C_take 104 = .ok (.iconst 0, 1) := by decide +kernel
theorem d_C_take_105 : decode c_C_take 105 = .ok (.iastore, 1) := by decide +kernel
theorem d_C_take_106 : decode c_C_take 106 = .ok (.goto 69, 3) := by decide +kernel
theorem d_C_take_109 : decode c_C_take 109 = .ok (.aload_n 0, 1) := by decide +kernel
theorem d_C_take_110 : decode c_C_take 110 = .ok (.iload_n 2, 1) := by decide +kernel
theorem d_C_take_111 : decode c_C_take 111 = .ok (.aload_n 0, 1) := by decide +kernel
theorem d_C_take_112 : decode c_C_take 112 = .ok (.getfield 41, 3) := by decide +kernel
theorem d_C_take_115 : decode c_C_take 115 = .ok (.iload_n 1, 1) := by decide +kernel
theorem d_C_take_116 : decode c_C_take 116 = .ok (.iconst 5, 1) := by decide +kernel
theorem d_C_take_117 : decode c_C_take 117 = .ok (.invokevirtual 63, 3) := by decide +kernel
theorem d_C_take_120 : decode c_C_take 120 = .ok (.aload_n 0, 1) := by decide +kernel
theorem d_C_take_121 : decode c_C_take 121 = .ok (.getfield 41, 3) := by decide +kernel
theorem d_C_take_124 : decode c_C_take 124 = .ok (.iload_n 1, 1) := by decide +kernel
theorem d_C_take_125 : decode c_C_take 125 = .ok (.bipush 6, 2) := by decide +kernel
theorem d_C_take_127 : decode c_C_take 127 = .ok (.invokevirtual 63, 3) := by decide +kernel
theorem d_C_take_130 : decode c_C_take 130 = .ok (.invokevirtual 79, 3) := by decide +kernel
theorem d_C_take_133 : decode c_C_take 133 = .ok (.goto 42, 3) := by decide +kernel
theorem d_C_take_136 : decode c_C_take 136 = .ok (.aload_n 0, 1) := by decide +kernel
theorem d_C_take_137 : decode c_C_take 137 = .ok (.getfield 15, 3) := by decide +kernel
theorem d_C_take_140 : decode c_C_take 140 = .ok (.iload_n 2, 1) := by decide +kernel
theorem d_C_take_141 : decode c_C_take 141 = .ok (.aload_n 0, 1) := by decide +kernel
theorem d_C_take_142 : decode c_C_take 142 = .ok (.getfield 41, 3) := by decide +kernel
theorem d_C_take_145 : decode c_C_take 145 = .ok (.iload_n 1, 1) := by decide +kernel
theorem d_C_take_146 : decode c_C_take 146 = .ok (.bipush 6, 2) := by decide +kernel
theorem d_C_take_148 : decode c_C_take 148 = .ok (.invokevirtual 63, 3) := by decide +kernel
theorem d_C_take_151 : decode c_C_take 151 = .ok (.iastore, 1) := by decide +kernel
theorem d_C_take_152 : decode c_C_take 152 = .ok (.aload_n 0, 1) := by decide +kernel
theorem d_C_take_153 : decode c_C_take 153 = .ok (.getfield 9, 3) := by decide +kernel
theorem d_C_take_156 : decode c_C_take 156 = .ok (.iload_n 2, 1) := by decide +kernel
theorem d_C_take_157 : decode c_C_take 157 = .ok (.iconst 2, 1) := by decide +kernel
theorem d_C_take_158 : decode c_C_take 158 = .ok (.iastore, 1) := by decide +kernel
theorem d_C_take_159 : decode c_C_take 159 = .ok (.aload_n 0, 1) := by decide +kernel
theorem d_C_take_160 : decode c_C_take 160 = .ok (.iload_n 2, 1) := by decide +kernel
theorem d_C_take_161 : decode c_C_take 161 = .ok (.invokevirtual 52, 3) := by decide +kernel
theorem d_C_take_164 : decode c_C_take 164 = .ok (.goto 11, 3) := by decide +kernel
theorem d_C_take_167 : decode c_C_take 167 = .ok (.aload_n 0, 1) := by decide +kernel
theorem d_C_take_168 : decode c_C_take 168 = .ok (.iload_n 2, 1) := by decide +kernel
theorem d_C_take_169 : decode c_C_take 169 = .ok (.invokevirtual 83, 3) := by decide +kernel
theorem d_C_take_172 : decode c_C_take 172 = .ok (.goto 3, 3) := by decide +kernel
theorem d_C_take_175 : decode c_C_take 175 = .ok (.return_, 1) := by decide +kernel
theorem d_C_shownValue_0 : decode c_C_shownValue 0 = .ok (.aload_n 0, 1) := by decide +kernel
theorem d_C_shownValue_1 : decode c_C_shownValue 1 = .ok (.getfield 9, 3) := by decide +kernel
theorem d_C_shownValue_4 : decode c_C_shownValue 4 = .ok (.iload_n 1, 1) := by decide +kernel
theorem d_C_shownValue_5 : decode c_C_shownValue 5 = .ok (.iaload, 1) := by decide +kernel
theorem d_C_shownValue_6 : decode c_C_shownValue 6 = .ok (.lookupswitch 44 #[(0, 42), (4, 42), (5, 42), (12, 42)], 42) := by decide +kernel
theorem d_C_shownValue_48 : decode c_C_shownValue 48 = .ok (.iconst 0, 1) := by decide +kernel
theorem d_C_shownValue_49 : decode c_C_shownValue 49 = .ok (.ireturn, 1) := by decide +kernel
theorem d_C_shownValue_50 : decode c_C_shownValue 50 = .ok (.aload_n 0, 1) := by decide +kernel
theorem d_C_shownValue_51 : decode c_C_shownValue 51 = .ok (.getfield 15, 3) := by decide +kernel
theorem d_C_shownValue_54 : decode c_C_shownValue 54 = .ok (.iload_n 1, 1) := by decide +kernel
theorem d_C_shownValue_55 : decode c_C_shownValue 55 = .ok (.iaload, 1) := by decide +kernel
theorem d_C_shownValue_56 : decode c_C_shownValue 56 = .ok (.ireturn, 1) := by decide +kernel
theorem d_C_shownOwed_0 : decode c_C_shownOwed 0 = .ok (.aload_n 0, 1) := by decide +kernel
theorem d_C_shownOwed_1 : decode c_C_shownOwed 1 = .ok (.getfield 9, 3) := by decide +kernel
theorem d_C_shownOwed_4 : decode c_C_shownOwed 4 = .ok (.iload_n 1, 1) := by decide +kernel
theorem d_C_shownOwed_5 : decode c_C_shownOwed 5 = .ok (.iaload, 1) := by decide +kernel
theorem d_C_shownOwed_6 : decode c_C_shownOwed 6 = .ok (.iconst 5, 1) := by decide +kernel
theorem d_C_shownOwed_7 : decode c_C_shownOwed 7 = .ok (.if_icmp .lt 23, 3) := by decide +kernel
theorem d_C_shownOwed_10 : decode c_C_shownOwed 10 = .ok (.aload_n 0, 1) := by decide +kernel
theorem d_C_shownOwed_11 : decode c_C_shownOwed 11 = .ok (.getfield 9, 3) := by decide +kernel
theorem d_C_shownOwed_14 : decode c_C_shownOwed 14 = .ok (.iload_n 1, 1) := by decide +kernel
theorem d_C_shownOwed_15 : decode c_C_shownOwed 15 = .ok (.iaload, 1) := by decide +kernel
theorem d_C_shownOwed_16 : decode c_C_shownOwed 16 = .ok (.bipush 8, 2) := by decide +kernel
theorem d_C_shownOwed_18 : decode c_C_shownOwed 18 = .ok (.if_icmp .gt 12, 3) := by decide +kernel
theorem d_C_shownOwed_21 : decode c_C_shownOwed 21 = .ok (.aload_n 0, 1) := by decide +kernel
theorem d_C_shownOwed_22 : decode c_C_shownOwed 22 = .ok (.getfield 18, 3) := by decide +kernel
theorem d_C_shownOwed_25 : decode c_C_shownOwed 25 = .ok (.iload_n 1, 1) := by decide +kernel
theorem d_C_shownOwed_26 : decode c_C_shownOwed 26 = .ok (.iaload, 1) := by decide +kernel
theorem d_C_shownOwed_27 : decode c_C_shownOwed 27 = .ok (.goto 4, 3) := by decide +kernel
theorem d_C_shownOwed_30 : decode c_C_shownOwed 30 = .ok (.iconst 0, 1) := by decide +kernel
theorem d_C_shownOwed_31 : decode c_C_shownOwed 31 = .ok (.ireturn, 1) := by decide +kernel
theorem d_C_isStill_0 : decode c_C_isStill 0 = .ok (.aload_n 0, 1) := by decide +kernel
theorem d_C_isStill_1 : decode c_C_isStill 1 = .ok (.getfield 9, 3) := by decide +kernel
theorem d_C_isStill_4 : decode c_C_isStill 4 = .ok (.iload_n 1, 1) := by decide +kernel
theorem d_C_isStill_5 : decode c_C_isStill 5 = .ok (.iaload, 1) := by decide +kernel
theorem d_C_isStill_6 : decode c_C_isStill 6 = .ok (.iconst 3, 1) := by decide +kernel
theorem d_C_isStill_7 : decode c_C_isStill 7 = .ok (.if_icmp .gt 7, 3) := by decide +kernel
theorem d_C_isStill_10 : decode c_C_isStill 10 = .ok (.iconst 1, 1) := by decide +kernel
theorem d_C_isStill_11 : decode c_C_isStill 11 = .ok (.goto 4, 3) := by decide +kernel
theorem d_C_isStill_14 : decode c_C_isStill 14 = .ok (.iconst 0, 1) := by decide +kernel
theorem d_C_isStill_15 : decode c_C_isStill 15 = .ok (.ireturn, 1) := by decide +kernel
theorem d_C_isEnough_0 : decode c_C_isEnough 0 = .ok (.aload_n 0, 1) := by decide +kernel
theorem d_C_isEnough_1 : decode c_C_isEnough 1 = .ok (.getfield 9, 3) := by decide +kernel
theorem d_C_isEnough_4 : decode c_C_isEnough 4 = .ok (.iload_n 1, 1) := by decide +kernel
theorem d_C_isEnough_5 : decode c_C_isEnough 5 = .ok (.iaload, 1) := by decide +kernel
theorem d_C_isEnough_6 : decode c_C_isEnough 6 = .ok (.aload_n 0, 1) := by decide +kernel
theorem d_C_isEnough_7 : decode c_C_isEnough 7 = .ok (.getfield 25, 3) := by decide +kernel
theorem d_C_isEnough_10 : decode c_C_isEnough 10 = .ok (.ifCond .ne 7, 3) := by decide +kernel
theorem d_C_isEnough_13 : decode c_C_isEnough 13 = .ok (.iconst 1, 1) := by decide +kernel
theorem d_C_isEnough_14 : decode c_C_isEnough 14 = .ok (.goto 4, 3) := by decide +kernel
theorem d_C_isEnough_17 : decode c_C_isEnough 17 = .ok (.iconst 2, 1) := by decide +kernel
theorem d_C_isEnough_18 : decode c_C_isEnough 18 = .ok (.if_icmp .lt 7, 3) := by decide +kernel
theorem d_C_isEnough_21 : decode c_C_isEnough 21 = .ok (.iconst 1, 1) := by decide +kernel
theorem d_C_isEnough_22 : decode c_C_isEnough 22 = .ok (.goto 4, 3) := by decide +kernel
theorem d_C_isEnough_25 : decode c_C_isEnough 25 = .ok (.iconst 0, 1) := by decide +kernel
theorem d_C_isEnough_26 : decode c_C_isEnough 26 = .ok (.ireturn, 1) := by decide +kernel
theorem d_C_request_0 : decode c_C_request 0 = .ok (.aload_n 0, 1) := by decide +kernel
theorem d_C_request_1 : decode c_C_request 1 = .ok (.iconst 1, 1) := by decide +kernel
theorem d_C_request_2 : decode c_C_request 2 = .ok (.putfield 21, 3) := by decide +kernel
theorem d_C_request_5 : decode c_C_request 5 = .ok (.aload_n 0, 1) := by decide +kernel
theorem d_C_request_6 : decode c_C_request 6 = .ok (.getfield 18, 3) := by decide +kernel
theorem d_C_request_9 : decode c_C_request 9 = .ok (.iload_n 1, 1) := by decide +kernel
theorem d_C_request_10 : decode c_C_request 10 = .ok (.iconst 0, 1) := by decide +kernel
theorem d_C_request_11 : decode c_C_request 11 = .ok (.iastore, 1) := by decide +kernel
theorem d_C_request_12 : decode c_C_request 12 = .ok (.aload_n 0, 1) := by decide +kernel
theorem d_C_request_13 : decode c_C_request 13 = .ok (.getfield 25, 3) := by decide +kernel
theorem d_C_request_16 : decode c_C_request 16 = .ok (.ifCond .ne 33, 3) := by decide +kernel
theorem d_C_request_19 : decode c_C_request 19 = .ok (.aload_n 0, 1) := by decide +kernel
theorem d_C_request_20 : decode c_C_request 20 = .ok (.getfield 41, 3) := by decide +kernel
theorem d_C_request_23 : decode c_C_request 23 = .ok (.iconst 0, 1) := by decide +kernel
theorem d_C_request_24 : decode c_C_request 24 = .ok (.iload_n 1, 1) := by decide +kernel
theorem d_C_request_25 : decode c_C_request 25 = .ok (.aload_n 0, 1) := by decide +kernel
theorem d_C_request_26 : decode c_C_request 26 = .ok (.getfield 38, 3) := by decide +kernel
theorem d_C_request_29 : decode c_C_request 29 = .ok (.iconst 4, 1) := by decide +kernel
theorem d_C_request_30 : decode c_C_request 30 = .ok (.aload_n 0, 1) := by decide +kernel
theorem d_C_request_31 : decode c_C_request 31 = .ok (.getfield 38, 3) := by decide +kernel
theorem d_C_request_34 : decode c_C_request 34 = .ok (.iconst 0, 1) := by decide +kernel
theorem d_C_request_35 : decode c_C_request 35 = .ok (.iconst 0, 1) := by decide +kernel
theorem d_C_request_36 : decode c_C_request 36 = .ok (.invokevirtual 86, 3) := by decide +kernel
theorem d_C_request_39 : decode c_C_request 39 = .ok (.aload_n 0, 1) := by decide +kernel
theorem d_C_request_40 : decode c_C_request 40 = .ok (.getfield 9, 3) := by decide +kernel
theorem d_C_request_43 : decode c_C_request 43 = .ok (.iload_n 1, 1) := by decide +kernel
theorem d_C_request_44 : decode c_C_request 44 = .ok (.iconst 4, 1) := by decide +kernel
theorem d_C_request_45 : decode c_C_request 45 = .ok (.iastore, 1) := by decide +kernel
theorem d_C_request_46 : decode c_C_request 46 = .ok (.goto 45, 3) := by decide +kernel
theorem d_C_request_49 : decode c_C_request 49 = .ok (.aload_n 0, 1) := by decide +kernel
theorem d_C_request_50 : decode c_C_request 50 = .ok (.getfield 41, 3) := by decide +kernel
theorem d_C_request_53 : decode c_C_request 53 = .ok (.iconst 1, 1) := by decide +kernel
theorem d_C_request_54 : decode c_C_request 54 = .ok (.iload_n 1, 1) := by decide +kernel
theorem d_C_request_55 : decode c_C_request 55 = .ok (.aload_n 0, 1) := by decide +kernel
theorem d_C_request_56 : decode c_C_request 56 = .ok (.getfield 38, 3) := by decide +kernel
theorem d_C_request_59 : decode c_C_request 59 = .ok (.iconst 4, 1) := by decide +kernel
theorem d_C_request_60 : decode c_C_request 60 = .ok (.aload_n 0, 1) := by decide +kernel
theorem d_C_request_61 : decode c_C_request 61 = .ok (.getfield 38, 3) := by decide +kernel
theorem d_C_request_64 : decode c_C_request 64 = .ok (.iconst 0, 1) := by decide +kernel
theorem d_C_request_65 : decode c_C_request 65 = .ok (.iconst 0, 1) := by decide +kernel
theorem d_C_request_66 : decode c_C_request 66 = .ok (.invokevirtual 86, 3) := by decide +kernel
theorem d_C_request_69 : decode c_C_request 69 = .ok (.aload_n 0, 1) := by decide +kernel
theorem d_C_request_70 : decode c_C_request 70 = .ok (.getfield 9, 3) := by decide +kernel
theorem d_C_request_73 : decode c_C_request 73 = .ok (.iload_n 1, 1) := by decide +kernel
theorem d_C_request_74 : decode c_C_request 74 = .ok (.aload_n 0, 1) := by decide +kernel
theorem d_C_request_75 : decode c_C_request 75 = .ok (.getfield 9, 3) := by decide +kernel
theorem d_C_request_78 : decode c_C_request 78 = .ok (.iload_n 1, 1) := by decide +kernel
theorem d_C_request_79 : decode c_C_request 79 = .ok (.iaload, 1) := by decide +kernel
theorem d_C_request_80 : decode c_C_request 80 = .ok (.iconst 1, 1) := by decide +kernel
theorem d_C_request_81 : decode c_C_request 81 = .ok (.if_icmp .ne 8, 3) := by decide +kernel
theorem d_C_request_84 : decode c_C_request 84 = .ok (.bipush 7, 2) := by decide +kernel
theorem d_C_request_86 : decode c_C_request 86 = .ok (.goto 4, 3) := by decide +kernel
theorem d_C_request_89 : decode c_C_request 89 = .ok (.iconst 5, 1) := by decide +kernel
theorem d_C_request_90 : decode c_C_request 90 = .ok (.iastore, 1) := by decide +kernel
theorem d_C_request_91 : decode c_C_request 91 = .ok (.return_, 1) := by decide +kernel
theorem d_C_sendLeave_0 : decode c_C_sendLeave 0 = .ok (.aload_n 0, 1) := by decide +kernel
theorem d_C_sendLeave_1 : decode c_C_sendLeave 1 = .ok (.getfield 41, 3) := by decide +kernel
theorem d_C_sendLeave_4 : decode c_C_sendLeave 4 = .ok (.iload_n 1, 1) := by decide +kernel
theorem d_C_sendLeave_5 : decode c_C_sendLeave 5 = .ok (.iload_n 2, 1) := by decide +kernel
theorem d_C_sendLeave_6 : decode c_C_sendLeave 6 = .ok (.aload_n 0, 1) := by decide +kernel
theorem d_C_sendLeave_7 : decode c_C_sendLeave 7 = .ok (.getfield 38, 3) := by decide +kernel
theorem d_C_sendLeave_10 : decode c_C_sendLeave 10 = .ok (.iconst 4, 1) := by decide +kernel
theorem d_C_sendLeave_11 : decode c_C_sendLeave 11 = .ok (.aload_n 0, 1) := by decide +kernel
theorem d_C_sendLeave_12 : decode c_C_sendLeave 12 = .ok (.getfield 38, 3) := by decide +kernel
theorem d_C_sendLeave_15 : decode c_C_sendLeave 15 = .ok (.iconst 0, 1) := by decide +kernel
theorem d_C_sendLeave_16 : decode c_C_sendLeave 16 = .ok (.iload_n 3, 1) := by decide +kernel
theorem d_C_sendLeave_17 : decode c_C_sendLeave 17 = .ok (.invokevirtual 86, 3) := by decide +kernel
theorem d_C_sendLeave_20 : decode c_C_sendLeave 20 = .ok (.aload_n 0, 1) := by decide +kernel
theorem d_C_sendLeave_21 : decode c_C_sendLeave 21 = .ok (.getfield 9, 3) := by decide +kernel
theorem d_C_sendLeave_24 : decode c_C_sendLeave 24 = .ok (.iload_n 2, 1) := by decide +kernel
theorem d_C_sendLeave_25 : decode c_C_sendLeave 25 = .ok (.iload 4, 2) := by decide +kernel
theorem d_C_sendLeave_27 : decode c_C_sendLeave 27 = .ok (.iastore, 1) := by decide +kernel
theorem d_C_sendLeave_28 : decode c_C_sendLeave 28 = .ok (.return_, 1) := by decide +kernel
theorem d_C_shareWith_0 : decode c_C_shareWith 0 = .ok (.aload_n 0, 1) := by decide +kernel
theorem d_C_shareWith_1 : decode c_C_shareWith 1 = .ok (.iload_n 2, 1) := by decide +kernel
theorem d_C_shareWith_2 : decode c_C_shareWith 2 = .ok (.invokevirtual 90, 3) := by decide +kernel
theorem d_C_shareWith_5 : decode c_C_shareWith 5 = .ok (.istore_n 3, 1) := by decide +kernel
theorem d_C_shareWith_6 : decode c_C_shareWith 6 = .ok (.aload_n 0, 1) := by decide +kernel
theorem d_C_shareWith_7 : decode c_C_shareWith 7 = .ok (.getfield 41, 3) := by decide +kernel
theorem d_C_shareWith_10 : decode c_C_shareWith 10 = .ok (.bipush 9, 2) := by decide +kernel
theorem d_C_shareWith_12 : decode c_C_shareWith 12 = .ok (.iload_n 2, 1) := by decide +kernel
theorem d_C_shareWith_13 : decode c_C_shareWith 13 = .ok (.aload_n 0, 1) := by decide +kernel
theorem d_C_shareWith_14 : decode c_C_shareWith 14 = .ok (.getfield 38, 3) := by decide +kernel
theorem d_C_shareWith_17 : decode c_C_shareWith 17 = .ok (.iload_n 1, 1) := by decide +kernel
theorem d_C_shareWith_18 : decode c_C_shareWith 18 = .ok (.iload_n 1, 1) := by decide +kernel
theorem d_C_shareWith_19 : decode c_C_shareWith 19 = .ok (.iconst 0, 1) := by decide +kernel
theorem d_C_shareWith_20 : decode c_C_shareWith 20 = .ok (.aload_n 0, 1) := by decide +kernel
theorem d_C_shareWith_21 : decode c_C_shareWith 21 = .ok (.getfield 15, 3) := by decide +kernel
theorem d_C_shareWith_24 : decode c_C_shareWith 24 = .ok (.iload_n 2, 1) := by decide +kernel
theorem d_C_shareWith_25 : decode c_C_shareWith 25 = .ok (.iaload, 1) := by decide +kernel
theorem d_C_shareWith_26 : decode c_C_shareWith 26 = .ok (.invokevirtual 86, 3) := by decide +kernel
theorem d_C_shareWith_29 : decode c_C_shareWith 29 = .ok (.aload_n 0, 1) := by decide +kernel
theorem d_C_shareWith_30 : decode c_C_shareWith 30 = .ok (.getfield 41, 3) := by decide +kernel
theorem d_C_shareWith_33 : decode c_C_shareWith 33 = .ok (.bipush 9, 2) := by decide +kernel
theorem d_C_shareWith_35 : decode c_C_shareWith 35 = .ok (.iload_n 2, 1) := by decide +kernel
theorem d_C_shareWith_36 : decode c_C_shareWith 36 = .ok (.aload_n 0, 1) := by decide +kernel
theorem d_C_shareWith_37 : decode c_C_shareWith 37 = .ok (.getfield 38, 3) := by decide +kernel
theorem d_C_shareWith_40 : decode c_C_shareWith 40 = .ok (.iconst 4, 1) := by decide +kernel
theorem d_C_shareWith_41 : decode c_C_shareWith 41 = .ok (.iload_n 1, 1) := by decide +kernel
theorem d_C_shareWith_42 : decode c_C_shareWith 42 = .ok (.iconst 0, 1) := by decide +kernel
theorem d_C_shareWith_43 : decode c_C_shareWith 43 = .ok (.aload_n 0, 1) := by decide +kernel
theorem d_C_shareWith_44 : decode c_C_shareWith 44 = .ok (.getfield 15, 3) := by decide +kernel
theorem d_C_shareWith_47 : decode c_C_shareWith 47 = .ok (.iload_n 2, 1) := by decide +kernel
theorem d_C_shareWith_48 : decode c_C_shareWith 48 = .ok (.iaload, 1) := by decide +kernel
theorem d_C_shareWith_49 : decode c_C_shareWith 49 = .ok (.invokevirtual 86, 3) := by decide +kernel
theorem d_C_shareWith_52 : decode c_C_shareWith 52 = .ok (.aload_n 0, 1) := by decide +kernel
theorem d_C_shareWith_53 : decode c_C_shareWith 53 = .ok (.getfield 9, 3) := by decide +kernel
theorem d_C_shareWith_56 : decode c_C_shareWith 56 = .ok (.iload_n 2, 1) := by decide +kernel
theorem d_C_shareWith_57 : decode c_C_shareWith 57 = .ok (.iload_n 3, 1) := by decide +kernel
theorem d_C_shareWith_58 : decode c_C_shareWith 58 = .ok (.ifCond .eq 8, 3) := by decide +kernel
theorem d_C_shareWith_61 : decode c_C_shareWith 61 = .ok (.bipush 11, 2) := by decide +kernel
theorem d_C_shareWith_63 : decode c_C_shareWith 63 = .ok (.goto 4, 3) := by decide +kernel
theorem d_C_shareWith_66 : decode c_C_shareWith 66 = .ok (.iconst 1, 1) := by decide +kernel
theorem d_C_shareWith_67 : decode c_C_shareWith 67 = .ok (.iastore, 1) := by decide +kernel
theorem d_C_shareWith_68 : decode c_C_shareWith 68 = .ok (.return_, 1) := by decide +kernel
theorem d_C_yieldTo_0 : decode c_C_yieldTo 0 = .ok (.aload_n 0, 1) := by decide +kernel
theorem d_C_yieldTo_1 : decode c_C_yieldTo 1 = .ok (.iload_n 2, 1) := by decide +kernel
theorem d_C_yieldTo_2 : decode c_C_yieldTo 2 = .ok (.invokevirtual 90, 3) := by decide +kernel
theorem d_C_yieldTo_5 : decode c_C_yieldTo 5 = .ok (.istore_n 3, 1) := by decide +kernel
theorem d_C_yieldTo_6 : decode c_C_yieldTo 6 = .ok (.aload_n 0, 1) := by decide +kernel
theorem d_C_yieldTo_7 : decode c_C_yieldTo 7 = .ok (.getfield 41, 3) := by decide +kernel
theorem d_C_yieldTo_10 : decode c_C_yieldTo 10 = .ok (.bipush 9, 2) := by decide +kernel
theorem d_C_yieldTo_12 : decode c_C_yieldTo 12 = .ok (.iload_n 2, 1) := by decide +kernel
theorem d_C_yieldTo_13 : decode c_C_yieldTo 13 = .ok (.aload_n 0, 1) := by decide +kernel
theorem d_C_yieldTo_14 : decode c_C_yieldTo 14 = .ok (.getfield 38, 3) := by decide +kernel
theorem d_C_yieldTo_17 : decode c_C_yieldTo 17 = .ok (.iload_n 1, 1) := by decide +kernel
theorem d_C_yieldTo_18 : decode c_C_yieldTo 18 = .ok (.iload_n 1, 1) := by decide +kernel
theorem d_C_yieldTo_19 : decode c_C_yieldTo 19 = .ok (.iconst 0, 1) := by decide +kernel
theorem d_C_yieldTo_20 : decode c_C_yieldTo 20 = .ok (.aload_n 0, 1) := by decide +kernel
theorem d_C_yieldTo_21 : decode c_C_yieldTo 21 = .ok (.getfield 15, 3) := by decide +kernel
theorem d_C_yieldTo_24 : decode c_C_yieldTo 24 = .ok (.iload_n 2, 1) := by decide +kernel
theorem d_C_yieldTo_25 : decode c_C_yieldTo 25 = .ok (.iaload, 1) := by decide +kernel
theorem d_C_yieldTo_26 : decode c_C_yieldTo 26 = .ok (.invokevirtual 86, 3) := by decide +kernel
theorem d_C_yieldTo_29 : decode c_C_yieldTo 29 = .ok (.aload_n 0, 1) := by decide +kernel
theorem d_C_yieldTo_30 : decode c_C_yieldTo 30 = .ok (.getfield 9, 3) := by decide +kernel
theorem d_C_yieldTo_33 : decode c_C_yieldTo 33 = .ok (.iload_n 2, 1) := by decide +kernel
theorem d_C_yieldTo_34 : decode c_C_yieldTo 34 = .ok (.iload_n 3, 1) := by decide +kernel
theorem d_C_yieldTo_35 : decode c_C_yieldTo 35 = .ok (.ifCond .eq 8, 3) := by decide +kernel
theorem d_C_yieldTo_38 : decode c_C_yieldTo 38 = .ok (.bipush 12, 2) := by decide +kernel
theorem d_C_yieldTo_40 : decode c_C_yieldTo 40 = .ok (.goto 4, 3) := by decide +kernel
theorem d_C_yieldTo_43 : decode c_C_yieldTo 43 = .ok (.iconst 0, 1) := by decide +kernel
theorem d_C_yieldTo_44 : decode c_C_yieldTo 44 = .ok (.iastore, 1) := by decide +kernel
theorem d_C_yieldTo_45 : decode c_C_yieldTo 45 = .ok (.return_, 1) := by decide +kernel
theorem d_C_isLeavingAlone_0 : decode c_C_isLeavingAlone 0 = .ok (.aload_n 0, 1) := by decide +kernel
theorem d_C_isLeavingAlone_1 : decode c_C_isLeavingAlone 1 = .ok (.getfield 9, 3) := by decide +kernel
theorem d_C_isLeavingAlone_4 : decode c_C_isLeavingAlone 4 = .ok (.iload_n 1, 1) := by decide +kernel
theorem d_C_isLeavingAlone_5 : decode c_C_isLeavingAlone 5 = .ok (.iaload, 1) := by decide +kernel
theorem d_C_isLeavingAlone_6 : decode c_C_isLeavingAlone 6 = .ok (.bipush 9, 2) := by decide +kernel
theorem d_C_isLeavingAlone_8 : decode c_C_isLeavingAlone 8 = .ok (.if_icmp .eq 14, 3) := by decide +kernel
theorem d_C_isLeavingAlone_11 : decode c_C_isLeavingAlone 11 = .ok (.aload_n 0, 1) := by decide +kernel
theorem d_C_isLeavingAlone_12 : decode c_C_isLeavingAlone 12 = .ok (.getfield 9, 3) := by decide +kernel
theorem d_C_isLeavingAlone_15 : decode c_C_isLeavingAlone 15 = .ok (.iload_n 1, 1) := by decide +kernel
theorem d_C_isLeavingAlone_16 : decode c_C_isLeavingAlone 16 = .ok (.iaload, 1) := by decide +kernel
theorem d_C_isLeavingAlone_17 : decode c_C_isLeavingAlone 17 = .ok (.bipush 10, 2) := by decide +kernel
theorem d_C_isLeavingAlone_19 : decode c_C_isLeavingAlone 19 = .ok (.if_icmp .ne 7, 3) := by decide +kernel
theorem d_C_isLeavingAlone_22 : decode c_C_isLeavingAlone 22 = .ok (.iconst 1, 1) := by decide +kernel
theorem d_C_isLeavingAlone_23 : decode c_C_isLeavingAlone 23 = .ok (.goto 4, 3) := by decide +kernel
theorem d_C_isLeavingAlone_26 : decode c_C_isLeavingAlone 26 = .ok (.iconst 0, 1) := by decide +kernel
theorem d_C_isLeavingAlone_27 : decode c_C_isLeavingAlone 27 = .ok (.ireturn, 1) := by decide +kernel
theorem d_C_dropFor_0 : decode c_C_dropFor 0 = .ok (.aload_n 0, 1) := by decide +kernel
theorem d_C_dropFor_1 : decode c_C_dropFor 1 = .ok (.getfield 41, 3) := by decide +kernel
theorem d_C_dropFor_4 : decode c_C_dropFor 4 = .ok (.bipush 11, 2) := by decide +kernel
theorem d_C_dropFor_6 : decode c_C_dropFor 6 = .ok (.iload_n 2, 1) := by decide +kernel
theorem d_C_dropFor_7 : decode c_C_dropFor 7 = .ok (.aload_n 0, 1) := by decide +kernel
theorem d_C_dropFor_8 : decode c_C_dropFor 8 = .ok (.getfield 38, 3) := by decide +kernel
theorem d_C_dropFor_11 : decode c_C_dropFor 11 = .ok (.iload_n 1, 1) := by decide +kernel
theorem d_C_dropFor_12 : decode c_C_dropFor 12 = .ok (.iload_n 1, 1) := by decide +kernel
theorem d_C_dropFor_13 : decode c_C_dropFor 13 = .ok (.iconst 0, 1) := by decide +kernel
theorem d_C_dropFor_14 : decode c_C_dropFor 14 = .ok (.iconst 0, 1) := by decide +kernel
theorem d_C_dropFor_15 : decode c_C_dropFor 15 = .ok (.invokevirtual 86, 3) := by decide +kernel
theorem d_C_dropFor_18 : decode c_C_dropFor 18 = .ok (.aload_n 0, 1) := by decide +kernel
theorem d_C_dropFor_19 : decode c_C_dropFor 19 = .ok (.getfield 9, 3) := by decide +kernel
theorem d_C_dropFor_22 : decode c_C_dropFor 22 = .ok (.iload_n 2, 1) := by decide +kernel
theorem d_C_dropFor_23 : decode c_C_dropFor 23 = .ok (.iaload, 1) := by decide +kernel
theorem d_C_dropFor_24 : decode c_C_dropFor 24 = .ok (.lookupswitch 49 #[(7, 28), (11, 38)], 28) := by decide +kernel
theorem d_C_dropFor_52 : decode c_C_dropFor 52 = .ok (.aload_n 0, 1) := by decide +kernel
theorem d_C_dropFor_53 : decode c_C_dropFor 53 = .ok (.getfield 9, 3) := by decide +kernel
theorem d_C_dropFor_56 : decode c_C_dropFor 56 = .ok (.iload_n 2, 1) := by decide +kernel
theorem d_C_dropFor_57 : decode c_C_dropFor 57 = .ok (.iconst 5, 1) := by decide +kernel
theorem d_C_dropFor_58 : decode c_C_dropFor 58 = .ok (.iastore, 1) := by decide +kernel
theorem d_C_dropFor_59 : decode c_C_dropFor 59 = .ok (.goto 21, 3) := by decide +kernel
theorem d_C_dropFor_62 : decode c_C_dropFor 62 = .ok (.aload_n 0, 1) := by decide +kernel
theorem d_C_dropFor_63 : decode c_C_dropFor 63 = .ok (.getfield 9, 3) := by decide +kernel
theorem d_C_dropFor_66 : decode c_C_dropFor 66 = .ok (.iload_n 2, 1) := by decide +kernel
theorem d_C_dropFor_67 : decode c_C_dropFor 67 = .ok (.bipush 12, 2) := by decide +kernel
theorem d_C_dropFor_69 : decode c_C_dropFor 69 = .ok (.iastore, 1) := by decide +kernel
theorem d_C_dropFor_70 : decode c_C_dropFor 70 = .ok (.goto 10, 3) := by decide +kernel
theorem d_C_dropFor_73 : decode c_C_dropFor 73 = .ok (.aload_n 0, 1) := by decide +kernel
theorem d_C_dropFor_74 : decode c_C_dropFor 74 = .ok (.getfield 9, 3) := by decide +kernel
theorem d_C_dropFor_77 : decode c_C_dropFor 77 = .ok (.iload_n 2, 1) := by decide +kernel
theorem d_C_dropFor_78 : decode c_C_dropFor 78 = .ok (.iconst 0, 1) := by decide +kernel
theorem d_C_dropFor_79 : decode c_C_dropFor 79 = .ok (.iastore, 1) := by decide +kernel
theorem d_C_dropFor_80 : decode c_C_dropFor 80 = .ok (.return_, 1) := by decide +kernel
theorem d_C_takeData_0 : decode c_C_takeData 0 = .ok (.aload_n 0, 1) := by decide +kernel
theorem d_C_takeData_1 : decode c_C_takeData 1 = .ok (.getfield 15, 3) := by decide +kernel
theorem d_C_takeData_4 : decode c_C_takeData 4 = .ok (.iload_n 1, 1) := by decide +kernel
theorem d_C_takeData_5 : decode c_C_takeData 5 = .ok (.iload_n 3, 1) := by decide +kernel
theorem d_C_takeData_6 : decode c_C_takeData 6 = .ok (.iastore, 1) := by decide +kernel
theorem d_C_takeData_7 : decode c_C_takeData 7 = .ok (.aload_n 0, 1) := by decide +kernel
theorem d_C_takeData_8 : decode c_C_takeData 8 = .ok (.getfield 9, 3) := by decide +kernel
theorem d_C_takeData_11 : decode c_C_takeData 11 = .ok (.iload_n 1, 1) := by decide +kernel
theorem d_C_takeData_12 : decode c_C_takeData 12 = .ok (.iaload, 1) := by decide +kernel
theorem d_C_takeData_13 : decode c_C_takeData 13 = .ok (.iconst 4, 1) := by decide +kernel
theorem d_C_takeData_14 : decode c_C_takeData 14 = .ok (.if_icmp .ne 16, 3) := by decide +kernel
theorem d_C_takeData_17 : decode c_C_takeData 17 = .ok (.aload_n 0, 1) := by decide +kernel
theorem d_C_takeData_18 : decode c_C_takeData 18 = .ok (.getfield 9, 3) := by decide +kernel
theorem d_C_takeData_21 : decode c_C_takeData 21 = .ok (.iload_n 1, 1) := by decide +kernel
theorem d_C_takeData_22 : decode c_C_takeData 22 = .ok (.iconst 1, 1) := by decide +kernel
theorem d_C_takeData_23 : decode c_C_takeData 23 = .ok (.iastore, 1) := by decide +kernel
theorem d_C_takeData_24 : decode c_C_takeData 24 = .ok (.aload_n 0, 1) := by decide +kernel
theorem d_C_takeData_25 : decode c_C_takeData 25 = .ok (.iload_n 1, 1) := by decide +kernel
theorem d_C_takeData_26 : decode c_C_takeData 26 = .ok (.invokevirtual 52, 3) := by decide +kernel
theorem d_C_takeData_29 : decode c_C_takeData 29 = .ok (.return_, 1) := by decide +kernel
theorem d_C_takeData_30 : decode c_C_takeData 30 = .ok (.aload_n 0, 1) := by decide +kernel
theorem d_C_takeData_31 : decode c_C_takeData 31 = .ok (.getfield 18, 3) := by decide +kernel
theorem d_C_takeData_34 : decode c_C_takeData 34 = .ok (.iload_n 1, 1) := by decide +kernel
theorem d_C_takeData_35 : decode c_C_takeData 35 = .ok (.dup2, 1) := by decide +kernel
theorem d_C_takeData_36 : decode c_C_takeData 36 = .ok (.iaload, 1) := by decide +kernel
theorem d_C_takeData_37 : decode c_C_takeData 37 = .ok (.iload_n 2, 1) := by decide +kernel
theorem d_C_takeData_38 : decode c_C_takeData 38 = .ok (.iadd, 1) := by decide +kernel
theorem d_C_takeData_39 : decode c_C_takeData 39 = .ok (.iastore, 1) := by decide +kernel
theorem d_C_takeData_40 : decode c_C_takeData 40 = .ok (.aload_n 0, 1) := by decide +kernel
theorem d_C_takeData_41 : decode c_C_takeData 41 = .ok (.getfield 9, 3) := by decide +kernel
theorem d_C_takeData_44 : decode c_C_takeData 44 = .ok (.iload_n 1, 1) := by decide +kernel
theorem d_C_takeData_45 : decode c_C_takeData 45 = .ok (.aload_n 0, 1) := by decide +kernel
theorem d_C_takeData_46 : decode c_C_takeData 46 = .ok (.getfield 9, 3) := by decide +kernel
theorem d_C_takeData_49 : decode c_C_takeData 49 = .ok (.iload_n 1, 1) := by decide +kernel
theorem d_C_takeData_50 : decode c_C_takeData 50 = .ok (.iaload, 1) := by decide +kernel
theorem d_C_takeData_51 : decode c_C_takeData 51 = .ok (.bipush 7, 2) := by decide +kernel
theorem d_C_takeData_53 : decode c_C_takeData 53 = .ok (.if_icmp .ne 8, 3) := by decide +kernel
theorem d_C_takeData_56 : decode c_C_takeData 56 = .ok (.bipush 8, 2) := by decide +kernel
theorem d_C_takeData_58 : decode c_C_takeData 58 = .ok (.goto 5, 3) := by decide +kernel
theorem d_C_takeData_61 : decode c_C_takeData 61 = .ok (.bipush 6, 2) := by decide +kernel
theorem d_C_takeData_63 : decode c_C_takeData 63 = .ok (.iastore, 1) := by decide +kernel
theorem d_C_takeData_64 : decode c_C_takeData 64 = .ok (.aload_n 0, 1) := by decide +kernel
theorem d_C_takeData_65 : decode c_C_takeData 65 = .ok (.iload_n 1, 1) := by decide +kernel
theorem d_C_takeData_66 : decode c_C_takeData 66 = .ok (.invokevirtual 93, 3) := by decide +kernel
theorem d_C_takeData_69 : decode c_C_takeData 69 = .ok (.return_, 1) := by decide +kernel
theorem d_C_takeDropped_0 : decode c_C_takeDropped 0 = .ok (.aload_n 0, 1) := by decide +kernel
theorem d_C_takeDropped_1 : decode c_C_takeDropped 1 = .ok (.getfield 18, 3) := by decide +kernel
theorem d_C_takeDropped_4 : decode c_C_takeDropped 4 = .ok (.iload_n 1, 1) := by decide +kernel
theorem d_C_takeDropped_5 : decode c_C_takeDropped 5 = .ok (.dup2, 1) := by decide +kernel
theorem d_C_takeDropped_6 : decode c_C_takeDropped 6 = .ok (.iaload, 1) := by decide +kernel
theorem d_C_takeDropped_7 : decode c_C_takeDropped 7 = .ok (.iconst 1, 1) := by decide +kernel
theorem d_C_takeDropped_8 : decode c_C_takeDropped 8 = .ok (.isub, 1) := by decide +kernel
theorem d_C_takeDropped_9 : decode c_C_takeDropped 9 = .ok (.iastore, 1) := by decide +kernel
theorem d_C_takeDropped_10 : decode c_C_takeDropped 10 = .ok (.aload_n 0, 1) := by decide +kernel
theorem d_C_takeDropped_11 : decode c_C_takeDropped 11 = .ok (.getfield 9, 3) := by decide +kernel
theorem d_C_takeDropped_14 : decode c_C_takeDropped 14 = .ok (.iload_n 1, 1) := by decide +kernel
theorem d_C_takeDropped_15 : decode c_C_takeDropped 15 = .ok (.iaload, 1) := by decide +kernel
theorem d_C_takeDropped_16 : decode c_C_takeDropped 16 = .ok (.bipush 6, 2) := by decide +kernel
theorem d_C_takeDropped_18 : decode c_C_takeDropped 18 = .ok (.if_icmp .eq 14, 3) := by decide +kernel
theorem d_C_takeDropped_21 : decode c_C_takeDropped 21 = .ok (.aload_n 0, 1) := by decide +kernel
theorem d_C_takeDropped_22 : decode c_C_takeDropped 22 = .ok (.getfield 9, 3) := by decide +kernel
theorem d_C_takeDropped_25 : decode c_C_takeDropped 25 = .ok (.iload_n 1, 1) := by decide +kernel
theorem d_C_takeDropped_26 : decode c_C_takeDropped 26 = .ok (.iaload, 1) := by decide +kernel
theorem d_C_takeDropped_27 : decode c_C_takeDropped 27 = .ok (.bipush 8, 2) := by decide +kernel
theorem d_C_takeDropped_29 : decode c_C_takeDropped 29 = .ok (.if_icmp .ne 8, 3) := by decide +kernel
theorem d_C_takeDropped_32 : decode c_C_takeDropped 32 = .ok (.aload_n 0, 1) := by decide +kernel
theorem d_C_takeDropped_33 : decode c_C_takeDropped 33 = .ok (.iload_n 1, 1) := by decide +kernel
theorem d_C_takeDropped_34 : decode c_C_takeDropped 34 = .ok (.invokevirtual 93, 3) := by decide +kernel
theorem d_C_takeDropped_37 : decode c_C_takeDropped 37 = .ok (.return_, 1) := by decide +kernel
theorem d_C_ownIfNothingOwed_0 : decode c_C_ownIfNothingOwed 0 = .ok (.aload_n 0, 1) := by decide +kernel
theorem d_C_ownIfNothingOwed_1 : decode c_C_ownIfNothingOwed 1 = .ok (.getfield 18, 3) := by decide +kernel
theorem d_C_ownIfNothingOwed_4 : decode c_C_ownIfNothingOwed 4 = .ok (.iload_n 1, 1) := by decide +kernel
theorem d_C_ownIfNothingOwed_5 : decode c_C_ownIfNothingOwed 5 = .ok (.iaload, 1) := by decide +kernel
theorem d_C_ownIfNothingOwed_6 : decode c_C_ownIfNothingOwed 6 = .ok (.ifCond .ne 15, 3) := by decide +kernel
theorem d_C_ownIfNothingOwed_9 : decode c_C_ownIfNothingOwed 9 = .ok (.aload_n 0, 1) := by decide +kernel
theorem d_C_ownIfNothingOwed_10 : decode c_C_ownIfNothingOwed 10 = .ok (.getfield 9, 3) := by decide +kernel
theorem d_C_ownIfNothingOwed_13 : decode c_C_ownIfNothingOwed 13 = .ok (.iload_n 1, 1) := by decide +kernel
theorem d_C_ownIfNothingOwed_14 : decode c_C_ownIfNothingOwed 14 = .ok (.iconst 3, 1) := by decide +kernel
theorem d_C_ownIfNothingOwed_15 : decode c_C_ownIfNothingOwed 15 = .ok (.iastore, 1) := by decide +kernel
theorem d_C_ownIfNothingOwed_16 : decode c_C_ownIfNothingOwed 16 = .ok (.aload_n 0, 1) := by decide +kernel
theorem d_C_ownIfNothingOwed_17 : decode c_C_ownIfNothingOwed 17 = .ok (.iload_n 1, 1) := by decide +kernel
theorem d_C_ownIfNothingOwed_18 : decode c_C_ownIfNothingOwed 18 = .ok (.invokevirtual 52, 3) := by decide +kernel
theorem d_C_ownIfNothingOwed_21 : decode c_C_ownIfNothingOwed 21 = .ok (.return_, 1) := by decide +kernel
theorem d_C_finish_0 : decode c_C_finish 0 = .ok (.aload_n 0, 1) := by decide +kernel
theorem d_C_finish_1 : decode c_C_finish 1 = .ok (.getfield 15, 3) := by decide +kernel
theorem d_C_finish_4 : decode c_C_finish 4 = .ok (.iload_n 1, 1) := by decide +kernel
theorem d_C_finish_5 : decode c_C_finish 5 = .ok (.iaload, 1) := by decide +kernel
theorem d_C_finish_6 : decode c_C_finish 6 = .ok (.istore_n 2, 1) := by decide +kernel
theorem d_C_finish_7 : decode c_C_finish 7 = .ok (.aload_n 0, 1) := by decide +kernel
theorem d_C_finish_8 : decode c_C_finish 8 = .ok (.aload_n 0, 1) := by decide +kernel
theorem d_C_finish_9 : decode c_C_finish 9 = .ok (.getfield 25, 3) := by decide +kernel
theorem d_C_finish_12 : decode c_C_finish 12 = .ok (.iconst 1, 1) := by decide +kernel
theorem d_C_finish_13 : decode c_C_finish 13 = .ok (.if_icmp .ne 10, 3) := by decide +kernel
theorem d_C_finish_16 : decode c_C_finish 16 = .ok (.aload_n 0, 1) := by decide +kernel
theorem d_C_finish_17 : decode c_C_finish 17 = .ok (.getfield 29, 3) := by decide +kernel
theorem d_C_finish_20 : decode c_C_finish 20 = .ok (.goto 4, 3) := by decide +kernel
theorem d_C_finish_23 : decode c_C_finish 23 = .ok (.iload_n 2, 1) := by decide +kernel
theorem d_C_finish_24 : decode c_C_finish 24 = .ok (.putfield 35, 3) := by decide +kernel
theorem d_C_finish_27 : decode c_C_finish 27 = .ok (.aload_n 0, 1) := by decide +kernel
theorem d_C_finish_28 : decode c_C_finish 28 = .ok (.getfield 25, 3) := by decide +kernel
theorem d_C_finish_31 : decode c_C_finish 31 = .ok (.ifCond .eq 29, 3) := by decide +kernel
theorem d_C_finish_34 : decode c_C_finish 34 = .ok (.aload_n 0, 1) := by decide +kernel
theorem d_C_finish_35 : decode c_C_finish 35 = .ok (.iload_n 1, 1) := by decide +kernel
theorem d_C_finish_36 : decode c_C_finish 36 = .ok (.aload_n 0, 1) := by decide +kernel
theorem d_C_finish_37 : decode c_C_finish 37 = .ok (.getfield 25, 3) := by decide +kernel
theorem d_C_finish_40 : decode c_C_finish 40 = .ok (.iconst 1, 1) := by decide +kernel
theorem d_C_finish_41 : decode c_C_finish 41 = .ok (.if_icmp .ne 10, 3) := by decide +kernel
theorem d_C_finish_44 : decode c_C_finish 44 = .ok (.aload_n 0, 1) := by decide +kernel
theorem d_C_finish_45 : decode c_C_finish 45 = .ok (.getfield 29, 3) := by decide +kernel
theorem d_C_finish_48 : decode c_C_finish 48 = .ok (.goto 9, 3) := by decide +kernel
theorem d_C_finish_51 : decode c_C_finish 51 = .ok (.iload_n 2, 1) := by decide +kernel
theorem d_C_finish_52 : decode c_C_finish 52 = .ok (.aload_n 0, 1) := by decide +kernel
theorem d_C_finish_53 : decode c_C_finish 53 = .ok (.getfield 29, 3) := by decide +kernel
theorem d_C_finish_56 : decode c_C_finish 56 = .ok (.iadd, 1) := by decide +kernel
theorem d_C_finish_57 : decode c_C_finish 57 = .ok (.invokevirtual 96, 3) := by decide +kernel
theorem d_C_finish_60 : decode c_C_finish 60 = .ok (.aload_n 0, 1) := by decide +kernel
theorem d_C_finish_61 : decode c_C_finish 61 = .ok (.dup, 1) := by decide +kernel
theorem d_C_finish_62 : decode c_C_finish 62 = .ok (.getfield 32, 3) := by decide +kernel
theorem d_C_finish_65 : decode c_C_finish 65 = .ok (.iconst 1, 1) := by decide +kernel
theorem d_C_finish_66 : decode c_C_finish 66 = .ok (.iadd, 1) := by decide +kernel
theorem d_C_finish_67 : decode c_C_finish 67 = .ok (.putfield 32, 3) := by decide +kernel
theorem d_C_finish_70 : decode c_C_finish 70 = .ok (.aload_n 0, 1) := by decide +kernel
theorem d_C_finish_71 : decode c_C_finish 71 = .ok (.iconst 0, 1) := by decide +kernel
theorem d_C_finish_72 : decode c_C_finish 72 = .ok (.putfield 21, 3) := by decide +kernel
theorem d_C_finish_75 : decode c_C_finish 75 = .ok (.return_, 1) := by decide +kernel
theorem d_C_change_0 : decode c_C_change 0 = .ok (.aload_n 0, 1) := by decide +kernel
theorem d_C_change_1 : decode c_C_change 1 = .ok (.getfield 15, 3) := by decide +kernel
theorem d_C_change_4 : decode c_C_change 4 = .ok (.iload_n 1, 1) := by decide +kernel
theorem d_C_change_5 : decode c_C_change 5 = .ok (.iload_n 2, 1) := by decide +kernel
theorem d_C_change_6 : decode c_C_change 6 = .ok (.iastore, 1) := by decide +kernel
theorem d_C_change_7 : decode c_C_change 7 = .ok (.aload_n 0, 1) := by decide +kernel
theorem d_C_change_8 : decode c_C_change 8 = .ok (.getfield 9, 3) := by decide +kernel
theorem d_C_change_11 : decode c_C_change 11 = .ok (.iload_n 1, 1) := by decide +kernel
theorem d_C_change_12 : decode c_C_change 12 = .ok (.iaload, 1) := by decide +kernel
theorem d_C_change_13 : decode c_C_change 13 = .ok (.iconst 2, 1) := by decide +kernel
theorem d_C_change_14 : decode c_C_change 14 = .ok (.if_icmp .ne 10, 3) := by decide +kernel
theorem d_C_change_17 : decode c_C_change 17 = .ok (.aload_n 0, 1) := by decide +kernel
theorem d_C_change_18 : decode c_C_change 18 = .ok (.getfield 9, 3) := by decide +kernel
theorem d_C_change_21 : decode c_C_change 21 = .ok (.iload_n 1, 1) := by decide +kernel
theorem d_C_change_22 : decode c_C_change 22 = .ok (.iconst 3, 1) := by decide +kernel
theorem d_C_change_23 : decode c_C_change 23 = .ok (.iastore, 1) := by decide +kernel
theorem d_C_change_24 : decode c_C_change 24 = .ok (.return_, 1) := by decide +kernel
theorem d_H_init_0 : decode c_H_init 0 = .ok (.aload_n 0, 1) := by decide +kernel
theorem d_H_init_1 : decode c_H_init 1 = .ok (.invokespecial 3, 3) := by decide +kernel
theorem d_H_init_4 : decode c_H_init 4 = .ok (.aload_n 0, 1) := by decide +kernel
theorem d_H_init_5 : decode c_H_init 5 = .ok (.iconst 4, 1) := by decide +kernel
theorem d_H_init_6 : decode c_H_init 6 = .ok (.newarray .int, 2) := by decide +kernel
theorem d_H_init_8 : decode c_H_init 8 = .ok (.putfield 9, 3) := by decide +kernel
theorem d_H_init_11 : decode c_H_init 11 = .ok (.aload_n 0, 1) := by decide +kernel
theorem d_H_init_12 : decode c_H_init 12 = .ok (.iconst 4, 1) := by decide +kernel
theorem d_H_init_13 : decode c_H_init 13 = .ok (.newarray .int, 2) := by decide +kernel
theorem d_H_init_15 : decode c_H_init 15 = .ok (.putfield 15, 3) := by decide +kernel
theorem d_H_init_18 : decode c_H_init 18 = .ok (.aload_n 0, 1) := by decide +kernel
theorem d_H_init_19 : decode c_H_init 19 = .ok (.iconst 4, 1) := by decide +kernel
theorem d_H_init_20 : decode c_H_init 20 = .ok (.newarray .int, 2) := by decide +kernel
theorem d_H_init_22 : decode c_H_init 22 = .ok (.putfield 18, 3) := by decide +kernel
theorem d_H_init_25 : decode c_H_init 25 = .ok (.aload_n 0, 1) := by decide +kernel
theorem d_H_init_26 : decode c_H_init 26 = .ok (.iconst 4, 1) := by decide +kernel
theorem d_H_init_27 : decode c_H_init 27 = .ok (.newarray .int, 2) := by decide +kernel
theorem d_H_init_29 : decode c_H_init 29 = .ok (.putfield 21, 3) := by decide +kernel
theorem d_H_init_32 : decode c_H_init 32 = .ok (.aload_n 0, 1) := by decide +kernel
theorem d_H_init_33 : decode c_H_init 33 = .ok (.aload_n 1, 1) := by decide +kernel
theorem d_H_init_34 : decode c_H_init 34 = .ok (.putfield 24, 3) := by decide +kernel
theorem d_H_init_37 : decode c_H_init 37 = .ok (.return_, 1) := by decide +kernel
theorem d_H_summary_0 : decode c_H_summary 0 = .ok (.aload_n 0, 1) := by decide +kernel
theorem d_H_summary_1 : decode c_H_summary 1 = .ok (.getfield 15, 3) := by decide +kernel
theorem d_H_summary_4 : decode c_H_summary 4 = .ok (.iload_n 1, 1) := by decide +kernel
theorem d_H_summary_5 : decode c_H_summary 5 = .ok (.iaload, 1) := by decide +kernel
theorem d_H_summary_6 : decode c_H_summary 6 = .ok (.iconst 2, 1) := by decide +kernel
theorem d_H_summary_7 : decode c_H_summary 7 = .ok (.if_icmp .ne 14, 3) := by decide +kernel
theorem d_H_summary_10 : decode c_H_summary 10 = .ok (.aload_n 0, 1) := by decide +kernel
theorem d_H_summary_11 : decode c_H_summary 11 = .ok (.getfield 18, 3) := by decide +kernel
theorem d_H_summary_14 : decode c_H_summary 14 = .ok (.iload_n 1, 1) := by decide +kernel
theorem d_H_summary_15 : decode c_H_summary 15 = .ok (.iaload, 1) := by decide +kernel
theorem d_H_summary_16 : decode c_H_summary 16 = .ok (.iconst 1, 1) := by decide +kernel
theorem d_H_summary_17 : decode c_H_summary 17 = .ok (.iadd, 1) := by decide +kernel
theorem d_H_summary_18 : decode c_H_summary 18 = .ok (.goto 4, 3) := by decide +kernel
theorem d_H_summary_21 : decode c_H_summary 21 = .ok (.iconst 0, 1) := by decide +kernel
theorem d_H_summary_22 : decode c_H_summary 22 = .ok (.istore_n 2, 1) := by decide +kernel
theorem d_H_summary_23 : decode c_H_summary 23 = .ok (.aload_n 0, 1) := by decide +kernel
theorem d_H_summary_24 : decode c_H_summary 24 = .ok (.getfield 15, 3) := by decide +kernel
theorem d_H_summary_27 : decode c_H_summary 27 = .ok (.iload_n 1, 1) := by decide +kernel
theorem d_H_summary_28 : decode c_H_summary 28 = .ok (.iaload, 1) := by decide +kernel
theorem d_H_summary_29 : decode c_H_summary 29 = .ok (.iconst 4, 1) := by decide +kernel
theorem d_H_summary_30 : decode c_H_summary 30 = .ok (.iload_n 2, 1) := by decide +kernel
theorem d_H_summary_31 : decode c_H_summary 31 = .ok (.imul, 1) := by decide +kernel
theorem d_H_summary_32 : decode c_H_summary 32 = .ok (.iadd, 1) := by decide +kernel
theorem d_H_summary_33 : decode c_H_summary 33 = .ok (.bipush 32, 2) := by decide +kernel
theorem d_H_summary_35 : decode c_H_summary 35 = .ok (.aload_n 0, 1) := by decide +kernel
theorem d_H_summary_36 : decode c_H_summary 36 = .ok (.getfield 21, 3) := by decide +kernel
theorem d_H_summary_39 : decode c_H_summary 39 = .ok (.iload_n 1, 1) := by decide +kernel
theorem d_H_summary_40 : decode c_H_summary 40 = .ok (.iaload, 1) := by decide +kernel
theorem d_H_summary_41 : decode c_H_summary 41 = .ok (.imul, 1) := by decide +kernel
theorem d_H_summary_42 : decode c_H_summary 42 = .ok (.iadd, 1) := by decide +kernel
theorem d_H_summary_43 : decode c_H_summary 43 = .ok (.ireturn, 1) := by decide +kernel
theorem d_H_stalls_0 : decode c_H_stalls 0 = .ok (.iload_n 1, 1) := by decide +kernel
theorem d_H_stalls_1 : decode c_H_stalls 1 = .ok (.ifCond .eq 8, 3) := by decide +kernel
theorem d_H_stalls_4 : decode c_H_stalls 4 = .ok (.iload_n 1, 1) := by decide +kernel
theorem d_H_stalls_5 : decode c_H_stalls 5 = .ok (.iconst 1, 1) := by decide +kernel
theorem d_H_stalls_6 : decode c_H_stalls 6 = .ok (.if_icmp .ne 17, 3) := by decide +kernel
theorem d_H_stalls_9 : decode c_H_stalls 9 = .ok (.aload_n 0, 1) := by decide +kernel
theorem d_H_stalls_10 : decode c_H_stalls 10 = .ok (.getfield 15, 3) := by decide +kernel
theorem d_H_stalls_13 : decode c_H_stalls 13 = .ok (.iload_n 2, 1) := by decide +kernel
theorem d_H_stalls_14 : decode c_H_stalls 14 = .ok (.iaload, 1) := by decide +kernel
theorem d_H_stalls_15 : decode c_H_stalls 15 = .ok (.iconst 3, 1) := by decide +kernel
theorem d_H_stalls_16 : decode c_H_stalls 16 = .ok (.if_icmp .ne 7, 3) := by decide +kernel
theorem d_H_stalls_19 : decode c_H_stalls 19 = .ok (.iconst 1, 1) := by decide +kernel
theorem d_H_stalls_20 : decode c_H_stalls 20 = .ok (.goto 4, 3) := by decide +kernel
theorem d_H_stalls_23 : decode c_H_stalls 23 = .ok (.iconst 0, 1) := by decide +kernel
theorem d_H_stalls_24 : decode c_H_stalls 24 = .ok (.ireturn, 1) := by decide +kernel
theorem d_H_take_0 : decode c_H_take 0 = .ok (.aload_n 0, 1) := by decide +kernel
theorem d_H_take_1 : decode c_H_take 1 = .ok (.getfield 24, 3) := by decide +kernel
theorem d_H_take_4 : decode c_H_take 4 = .ok (.iload_n 1, 1) := by decide +kernel
theorem d_H_take_5 : decode c_H_take 5 = .ok (.iconst 1, 1) := by decide +kernel
theorem d_H_take_6 : decode c_H_take 6 = .ok (.invokevirtual 28, 3) := by decide +kernel
theorem d_H_take_9 : decode c_H_take 9 = .ok (.istore_n 2, 1) := by decide +kernel
theorem d_H_take_10 : decode c_H_take 10 = .ok (.aload_n 0, 1) := by decide +kernel
theorem d_H_take_11 : decode c_H_take 11 = .ok (.getfield 24, 3) := by decide +kernel
theorem d_H_take_14 : decode c_H_take 14 = .ok (.iload_n 1, 1) := by decide +kernel
theorem d_H_take_15 : decode c_H_take 15 = .ok (.iconst 4, 1) := by decide +kernel
theorem d_H_take_16 : decode c_H_take 16 = .ok (.invokevirtual 28, 3) := by decide +kernel
theorem d_H_take_19 : decode c_H_take 19 = .ok (.istore_n 3, 1) := by decide +kernel
theorem d_H_take_20 : decode c_H_take 20 = .ok (.aload_n 0, 1) := by decide +kernel
theorem d_H_take_21 : decode c_H_take 21 = .ok (.getfield 24, 3) := by decide +kernel
theorem d_H_take_24 : decode c_H_take 24 = .ok (.iload_n 1, 1) := by decide +kernel
theorem d_H_take_25 : decode c_H_take 25 = .ok (.iconst 0, 1) := by decide +kernel
theorem d_H_take_26 : decode c_H_take 26 = .ok (.invokevirtual 28, 3) := by decide +kernel
theorem d_H_take_29 : decode c_H_take 29 = .ok (.tableswitch 122 0 9 #[55, 64, 73, 73, 73, 122, 122, 122, 122, 83], 55) := by decide +kernel
theorem d_H_take_84 : decode c_H_take 84 = .ok (.aload_n 0, 1) := by decide +kernel
theorem d_H_take_85 : decode c_H_take 85 = .ok (.iload_n 2, 1) := by decide +kernel
theorem d_H_take_86 : decode c_H_take 86 = .ok (.iload_n 3, 1) := by decide +kernel
theorem d_H_take_87 : decode c_H_take 87 = .ok (.invokevirtual 34, 3) := by decide +kernel
theorem d_H_take_90 : decode c_H_take 90 = .ok (.goto 61, 3) := by decide +kernel
theorem d_H_take_93 : decode c_H_take 93 = .ok (.aload_n 0, 1) := by decide +kernel
theorem d_H_take_94 : decode c_H_take 94 = .ok (.iload_n 2, 1) := by decide +kernel
theorem d_H_take_95 : decode c_H_take 95 = .ok (.iload_n 3, 1) := by decide +kernel
theorem d_H_take_96 : decode c_H_take 96 = .ok (.invokevirtual 38, 3) := by decide +kernel
theorem d_H_take_99 : decode c_H_take 99 = .ok (.goto 52, 3) := by decide +kernel
theorem d_H_take_102 : decode c_H_take 102 = .ok (.aload_n 0, 1) := by decide +kernel
theorem d_H_take_103 : decode c_H_take 103 = .ok (.iload_n 1, 1) := by decide +kernel
theorem d_H_take_104 : decode c_H_take 104 = .ok (.iload_n 2, 1) := by decide +kernel
theorem d_H_take_105 : decode c_H_take 105 = .ok (.iload_n 3, 1) := by decide +kernel
theorem d_H_take_106 : decode c_H_take 106 = .ok (.invokevirtual 41, 3) := by decide +kernel
theorem d_H_take_109 : decode c_H_take 109 = .ok (.goto 42, 3) := by decide +kernel
theorem d_H_take_112 : decode c_H_take 112 = .ok (.aload_n 0, 1) := by decide +kernel
theorem d_H_take_113 : decode c_H_take 113 = .ok (.getfield 9, 3) := by decide +kernel
theorem d_H_take_116 : decode c_H_take 116 = .ok (.iload_n 2, 1) := by decide +kernel
theorem d_H_take_117 : decode c_H_take 117 = .ok (.aload_n 0, 1) := by decide +kernel
theorem d_H_take_118 : decode c_H_take 118 = .ok (.getfield 24, 3) := by decide +kernel
theorem d_H_take_121 : decode c_H_take 121 = .ok (.iload_n 1, 1) := by decide +kernel
theorem d_H_take_122 : decode c_H_take 122 = .ok (.bipush 6, 2) := by decide +kernel
theorem d_H_take_124 : decode c_H_take 124 = .ok (.invokevirtual 28, 3) := by decide +kernel
theorem d_H_take_127 : decode c_H_take 127 = .ok (.iastore, 1) := by decide +kernel
theorem d_H_take_128 : decode c_H_take 128 = .ok (.aload_n 0, 1) := by decide +kernel
theorem d_H_take_129 : decode c_H_take 129 = .ok (.getfield 15, 3) := by decide +kernel
theorem d_H_take_132 : decode c_H_take 132 = .ok (.iload_n 2, 1) := by decide +kernel
theorem d_H_take_133 : decode c_H_take 133 = .ok (.aload_n 0, 1) := by decide +kernel
theorem d_H_take_134 : decode c_H_take 134 = .ok (.getfield 21, 3) := by decide +kernel
theorem d_H_take_137 : decode c_H_take 137 = .ok (.iload_n 2, 1) := by decide +kernel
theorem d_H_take_138 : decode c_H_take 138 = .ok (.iaload, 1) := by decide +kernel
theorem d_H_take_139 : decode c_H_take 139 = .ok (.ifCond .ne 7, 3) := by decide +kernel
theorem d_H_take_142 : decode c_H_take 142 = .ok (.iconst 0, 1) := by decide +kernel
theorem d_H_take_143 : decode c_H_take 143 = .ok (.goto 4, 3) := by decide +kernel
theorem d_H_take_146 : decode c_H_take 146 = .ok (.iconst 1, 1) := by decide +kernel
theorem d_H_take_147 : decode c_H_take 147 = .ok (.iastore, 1) := by decide +kernel
theorem d_H_take_148 : decode c_H_take 148 = .ok (.goto 3, 3) := by decide +kernel
theorem d_H_take_151 : decode c_H_take 151 = .ok (.return_, 1) := by decide +kernel
theorem d_H_takeRead_0 : decode c_H_takeRead 0 = .ok (.aload_n 0, 1) := by decide +kernel
theorem d_H_takeRead_1 : decode c_H_takeRead 1 = .ok (.getfield 15, 3) := by decide +kernel
theorem d_H_takeRead_4 : decode c_H_takeRead 4 = .ok (.iload_n 1, 1) := by decide +kernel
theorem d_H_takeRead_5 : decode c_H_takeRead 5 = .ok (.iaload, 1) := by decide +kernel
theorem d_H_takeRead_6 : decode c_H_takeRead 6 = .ok (.lookupswitch 91 #[(0, 26), (1, 55)], 26) := by decide +kernel
theorem d_H_takeRead_32 : decode c_H_takeRead 32 = .ok (.aload_n 0, 1) := by decide +kernel
theorem d_H_takeRead_33 : decode c_H_takeRead 33 = .ok (.getfield 24, 3) := by decide +kernel
theorem d_H_takeRead_36 : decode c_H_takeRead 36 = .ok (.bipush 10, 2) := by decide +kernel
theorem d_H_takeRead_38 : decode c_H_takeRead 38 = .ok (.iload_n 1, 1) := by decide +kernel
theorem d_H_takeRead_39 : decode c_H_takeRead 39 = .ok (.iconst 4, 1) := by decide +kernel
theorem d_H_takeRead_40 : decode c_H_takeRead 40 = .ok (.iload_n 2, 1) := by decide +kernel
theorem d_H_takeRead_41 : decode c_H_takeRead 41 = .ok (.iload_n 2, 1) := by decide +kernel
theorem d_H_takeRead_42 : decode c_H_takeRead 42 = .ok (.iconst 0, 1) := by decide +kernel
theorem d_H_takeRead_43 : decode c_H_takeRead 43 = .ok (.aload_n 0, 1) := by decide +kernel
theorem d_H_takeRead_44 : decode c_H_takeRead 44 = .ok (.getfield 9, 3) := by decide +kernel
theorem d_H_takeRead_47 : decode c_H_takeRead 47 = .ok (.iload_n 1, 1) := by decide +kernel
theorem d_H_takeRead_48 : decode c_H_takeRead 48 = .ok (.iaload, 1) := by decide +kernel
theorem d_H_takeRead_49 : decode c_H_takeRead 49 = .ok (.invokevirtual 45, 3) := by decide +kernel
theorem d_H_takeRead_52 : decode c_H_takeRead 52 = .ok (.aload_n 0, 1) := by decide +kernel
theorem d_H_takeRead_53 : decode c_H_takeRead 53 = .ok (.iload_n 2, 1) := by decide +kernel
theorem d_H_takeRead_54 : decode c_H_takeRead 54 = .ok (.iload_n 1, 1) := by decide +kernel
theorem d_H_takeRead_55 : decode c_H_takeRead 55 = .ok (.invokevirtual 49, 3) := by decide +kernel
theorem d_H_takeRead_58 : decode c_H_takeRead 58 = .ok (.goto 85, 3) := by decide +kernel
theorem d_H_takeRead_61 : decode c_H_takeRead 61 = .ok (.aload_n 0, 1) := by decide +kernel
theorem d_H_takeRead_62 : decode c_H_takeRead 62 = .ok (.getfield 24, 3) := by decide +kernel
theorem d_H_takeRead_65 : decode c_H_takeRead 65 = .ok (.bipush 9, 2) := by decide +kernel
theorem d_H_takeRead_67 : decode c_H_takeRead 67 = .ok (.iload_n 1, 1) := by decide +kernel
theorem d_H_takeRead_68 : decode c_H_takeRead 68 = .ok (.iconst 4, 1) := by decide +kernel
theorem d_H_takeRead_69 : decode c_H_takeRead 69 = .ok (.iload_n 2, 1) := by decide +kernel
theorem d_H_takeRead_70 : decode c_H_takeRead 70 = .ok (.iload_n 2, 1) := by decide +kernel
theorem d_H_takeRead_71 : decode c_H_takeRead 71 = .ok (.iconst 0, 1) := by decide +kernel
theorem d_H_takeRead_72 : decode c_H_takeRead 72 = .ok (.aload_n 0, 1) := by decide +kernel
theorem d_H_takeRead_73 : decode c_H_takeRead 73 = .ok (.getfield 9, 3) := by decide +kernel
theorem d_H_takeRead_76 : decode c_H_takeRead 76 = .ok (.iload_n 1, 1) := by decide +kernel
theorem d_H_takeRead_77 : decode c_H_takeRead 77 = .ok (.iaload, 1) := by decide +kernel
theorem d_H_takeRead_78 : decode c_H_takeRead 78 = .ok (.invokevirtual 45, 3) := by decide +kernel
theorem d_H_takeRead_81 : decode c_H_takeRead 81 = .ok (.aload_n 0, 1) := by decide +kernel
theorem d_H_takeRead_82 : decode c_H_takeRead 82 = .ok (.getfield 21, 3) := by decide +kernel
theorem d_H_takeRead_85 : decode c_H_takeRead 85 = .ok (.iload_n 1, 1) := by decide +kernel
theorem d_H_takeRead_86 : decode c_H_takeRead 86 = .ok (.dup2, 1) := by decide +kernel
theorem d_H_takeRead_87 : decode c_H_takeRead 87 = .ok (.iaload, 1) := by decide +kernel
theorem d_H_takeRead_88 : decode c_H_takeRead 88 = .ok (.iload_n 2, 1) := by decide +kernel
theorem d_H_takeRead_89 : decode c_H_takeRead 89 = .ok (.invokestatic 52, 3) := by decide +kernel
theorem d_H_takeRead_92 : decode c_H_takeRead 92 = .ok (.ior, 1) := by decide +kernel
theorem d_H_takeRead_93 : decode c_H_takeRead 93 = .ok (.iastore, 1) := by decide +kernel
theorem d_H_takeRead_94 : decode c_H_takeRead 94 = .ok (.goto 49, 3) := by decide +kernel
theorem d_H_takeRead_97 : decode c_H_takeRead 97 = .ok (.aload_n 0, 1) := by decide +kernel
theorem d_H_takeRead_98 : decode c_H_takeRead 98 = .ok (.getfield 24, 3) := by decide +kernel
theorem d_H_takeRead_101 : decode c_H_takeRead 101 = .ok (.iconst 5, 1) := by decide +kernel
theorem d_H_takeRead_102 : decode c_H_takeRead 102 = .ok (.iload_n 1, 1) := by decide +kernel
theorem d_H_takeRead_103 : decode c_H_takeRead 103 = .ok (.iconst 4, 1) := by decide +kernel
theorem d_H_takeRead_104 : decode c_H_takeRead 104 = .ok (.aload_n 0, 1) := by decide +kernel
theorem d_H_takeRead_105 : decode c_H_takeRead 105 = .ok (.getfield 18, 3) := by decide +kernel
theorem d_H_takeRead_108 : decode c_H_takeRead 108 = .ok (.iload_n 1, 1) := by decide +kernel
theorem d_H_takeRead_109 : decode c_H_takeRead 109 = .ok (.iaload, 1) := by decide +kernel
theorem d_H_takeRead_110 : decode c_H_takeRead 110 = .ok (.iload_n 2, 1) := by decide +kernel
theorem d_H_takeRead_111 : decode c_H_takeRead 111 = .ok (.iconst 0, 1) := by decide +kernel
theorem d_H_takeRead_112 : decode c_H_takeRead 112 = .ok (.iconst 0, 1) := by decide +kernel
theorem d_H_takeRead_113 : decode c_H_takeRead 113 = .ok (.invokevirtual 45, 3) := by decide +kernel
theorem d_H_takeRead_116 : decode c_H_takeRead 116 = .ok (.aload_n 0, 1) := by decide +kernel
theorem d_H_takeRead_117 : decode c_H_takeRead 117 = .ok (.getfield 21, 3) := by decide +kernel
theorem d_H_takeRead_120 : decode c_H_takeRead 120 = .ok (.iload_n 1, 1) := by decide +kernel
theorem d_H_takeRead_121 : decode c_H_takeRead 121 = .ok (.aload_n 0, 1) := by decide +kernel
theorem d_H_takeRead_122 : decode c_H_takeRead 122 = .ok (.getfield 18, 3) := by decide +kernel
theorem d_H_takeRead_125 : decode c_H_takeRead 125 = .ok (.iload_n 1, 1) := by decide +kernel
theorem d_H_takeRead_126 : decode c_H_takeRead 126 = .ok (.iaload, 1) := by decide +kernel
theorem d_H_takeRead_127 : decode c_H_takeRead 127 = .ok (.invokestatic 52, 3) := by decide +kernel
theorem d_H_takeRead_130 : decode c_H_takeRead 130 = .ok (.iload_n 2, 1) := by decide +kernel
theorem d_H_takeRead_131 : decode c_H_takeRead 131 = .ok (.invokestatic 52, 3) := by decide +kernel
theorem d_H_takeRead_134 : decode c_H_takeRead 134 = .ok (.ior, 1) := by decide +kernel
theorem d_H_takeRead_135 : decode c_H_takeRead 135 = .ok (.iastore, 1) := by decide +kernel
theorem d_H_takeRead_136 : decode c_H_takeRead 136 = .ok (.aload_n 0, 1) := by decide +kernel
theorem d_H_takeRead_137 : decode c_H_takeRead 137 = .ok (.getfield 15, 3) := by decide +kernel
theorem d_H_takeRead_140 : decode c_H_takeRead 140 = .ok (.iload_n 1, 1) := by decide +kernel
theorem d_H_takeRead_141 : decode c_H_takeRead 141 = .ok (.iconst 3, 1) := by decide +kernel
theorem d_H_takeRead_142 : decode c_H_takeRead 142 = .ok (.iastore, 1) := by decide +kernel
theorem d_H_takeRead_143 : decode c_H_takeRead 143 = .ok (.return_, 1) := by decide +kernel
theorem d_H_takeWrite_0 : decode c_H_takeWrite 0 = .ok (.aload_n 0, 1) := by decide +kernel
theorem d_H_takeWrite_1 : decode c_H_takeWrite 1 = .ok (.getfield 15, 3) := by decide +kernel
theorem d_H_takeWrite_4 : decode c_H_takeWrite 4 = .ok (.iload_n 1, 1) := by decide +kernel
theorem d_H_takeWrite_5 : decode c_H_takeWrite 5 = .ok (.iaload, 1) := by decide +kernel
theorem d_H_takeWrite_6 : decode c_H_takeWrite 6 = .ok (.lookupswitch 58 #[(0, 26), (1, 49)], 26) := by decide +kernel
theorem d_H_takeWrite_32 : decode c_H_takeWrite 32 = .ok (.aload_n 0, 1) := by decide +kernel
theorem d_H_takeWrite_33 : decode c_H_takeWrite 33 = .ok (.getfield 24, 3) := by decide +kernel
theorem d_H_takeWrite_36 : decode c_H_takeWrite 36 = .ok (.bipush 9, 2) := by decide +kernel
theorem d_H_takeWrite_38 : decode c_H_takeWrite 38 = .ok (.iload_n 1, 1) := by decide +kernel
theorem d_H_takeWrite_39 : decode c_H_takeWrite 39 = .ok (.iconst 4, 1) := by decide +kernel
theorem d_H_takeWrite_40 : decode c_H_takeWrite 40 = .ok (.iload_n 2, 1) := by decide +kernel
theorem d_H_takeWrite_41 : decode c_H_takeWrite 41 = .ok (.iload_n 2, 1) := by decide +kernel
theorem d_H_takeWrite_42 : decode c_H_takeWrite 42 = .ok (.iconst 0, 1) := by decide +kernel
theorem d_H_takeWrite_43 : decode c_H_takeWrite 43 = .ok (.aload_n 0, 1) := by decide +kernel
theorem d_H_takeWrite_44 : decode c_H_takeWrite 44 = .ok (.getfield 9, 3) := by decide +kernel
theorem d_H_takeWrite_47 : decode c_H_takeWrite 47 = .ok (.iload_n 1, 1) := by decide +kernel
theorem d_H_takeWrite_48 : decode c_H_takeWrite 48 = .ok (.iaload, 1) := by decide +kernel
theorem d_H_takeWrite_49 : decode c_H_takeWrite 49 = .ok (.invokevirtual 45, 3) := by decide +kernel
theorem d_H_takeWrite_52 : decode c_H_takeWrite 52 = .ok (.goto 32, 3) := by decide +kernel
theorem d_H_takeWrite_55 : decode c_H_takeWrite 55 = .ok (.aload_n 0, 1) := by decide +kernel
theorem d_H_takeWrite_56 : decode c_H_takeWrite 56 = .ok (.iload_n 1, 1) := by decide +kernel
theorem d_H_takeWrite_57 : decode c_H_takeWrite 57 = .ok (.iload_n 2, 1) := by decide +kernel
theorem d_H_takeWrite_58 : decode c_H_takeWrite 58 = .ok (.invokevirtual 56, 3) := by decide +kernel
theorem d_H_takeWrite_61 : decode c_H_takeWrite 61 = .ok (.goto 23, 3) := by decide +kernel
theorem d_H_takeWrite_64 : decode c_H_takeWrite 64 = .ok (.aload_n 0, 1) := by decide +kernel
theorem d_H_takeWrite_65 : decode c_H_takeWrite 65 = .ok (.getfield 24, 3) := by decide +kernel
theorem d_H_takeWrite_68 : decode c_H_takeWrite 68 = .ok (.bipush 6, 2) := by decide +kernel
theorem d_H_takeWrite_70 : decode c_H_takeWrite 70 = .ok (.iload_n 1, 1) := by decide +kernel
theorem d_H_takeWrite_71 : decode c_H_takeWrite 71 = .ok (.iconst 4, 1) := by decide +kernel
theorem d_H_takeWrite_72 : decode c_H_takeWrite 72 = .ok (.aload_n 0, 1) := by decide +kernel
theorem d_H_takeWrite_73 : decode c_H_takeWrite 73 = .ok (.getfield 18, 3) := by decide +kernel
theorem d_H_takeWrite_76 : decode c_H_takeWrite 76 = .ok (.iload_n 1, 1) := by decide +kernel
theorem d_H_takeWrite_77 : decode c_H_takeWrite 77 = .ok (.iaload, 1) := by decide +kernel
theorem d_H_takeWrite_78 : decode c_H_takeWrite 78 = .ok (.iload_n 2, 1) := by decide +kernel
theorem d_H_takeWrite_79 : decode c_H_takeWrite 79 = .ok (.iconst 0, 1) := by decide +kernel
theorem d_H_takeWrite_80 : decode c_H_takeWrite 80 = .ok (.iconst 0, 1) := by decide +kernel
theorem d_H_takeWrite_81 : decode c_H_takeWrite 81 = .ok (.invokevirtual 45, 3) := by decide +kernel
theorem d_H_takeWrite_84 : decode c_H_takeWrite 84 = .ok (.aload_n 0, 1) := by decide +kernel
theorem d_H_takeWrite_85 : decode c_H_takeWrite 85 = .ok (.iload_n 2, 1) := by decide +kernel
theorem d_H_takeWrite_86 : decode c_H_takeWrite 86 = .ok (.iload_n 1, 1) := by decide +kernel
theorem d_H_takeWrite_87 : decode c_H_takeWrite 87 = .ok (.invokevirtual 49, 3) := by decide +kernel
theorem d_H_takeWrite_90 : decode c_H_takeWrite 90 = .ok (.return_, 1) := by decide +kernel
theorem d_H_dropOthers_0 : decode c_H_dropOthers 0 = .ok (.aload_n 0, 1) := by decide +kernel
theorem d_H_dropOthers_1 : decode c_H_dropOthers 1 = .ok (.getfield 21, 3) := by decide +kernel
theorem d_H_dropOthers_4 : decode c_H_dropOthers 4 = .ok (.iload_n 1, 1) := by decide +kernel
theorem d_H_dropOthers_5 : decode c_H_dropOthers 5 = .ok (.iaload, 1) := by decide +kernel
theorem d_H_dropOthers_6 : decode c_H_dropOthers 6 = .ok (.iload_n 2, 1) := by decide +kernel
theorem d_H_dropOthers_7 : decode c_H_dropOthers 7 = .ok (.invokestatic 52, 3) := by decide +kernel
theorem d_H_dropOthers_10 : decode c_H_dropOthers 10 = .ok (.iconst (-1), 1) := by decide +kernel
theorem d_H_dropOthers_11 : decode c_H_dropOthers 11 = .ok (.ixor, 1) := by decide +kernel
theorem d_H_dropOthers_12 : decode c_H_dropOthers 12 = .ok (.iand, 1) := by decide +kernel
theorem d_H_dropOthers_13 : decode c_H_dropOthers 13 = .ok (.istore_n 3, 1) := by decide +kernel
theorem d_H_dropOthers_14 : decode c_H_dropOthers 14 = .ok (.aload_n 0, 1) := by decide +kernel
theorem d_H_dropOthers_15 : decode c_H_dropOthers 15 = .ok (.getfield 24, 3) := by decide +kernel
theorem d_H_dropOthers_18 : decode c_H_dropOthers 18 = .ok (.bipush 9, 2) := by decide +kernel
theorem d_H_dropOthers_20 : decode c_H_dropOthers 20 = .ok (.iload_n 1, 1) := by decide +kernel
theorem d_H_dropOthers_21 : decode c_H_dropOthers 21 = .ok (.iconst 4, 1) := by decide +kernel
theorem d_H_dropOthers_22 : decode c_H_dropOthers 22 = .ok (.iload_n 2, 1) := by decide +kernel
theorem d_H_dropOthers_23 : decode c_H_dropOthers 23 = .ok (.iload_n 2, 1) := by decide +kernel
theorem d_H_dropOthers_24 : decode c_H_dropOthers 24 = .ok (.iload_n 3, 1) := by decide +kernel
theorem d_H_dropOthers_25 : decode c_H_dropOthers 25 = .ok (.invokestatic 59, 3) := by decide +kernel
theorem d_H_dropOthers_28 : decode c_H_dropOthers 28 = .ok (.aload_n 0, 1) := by decide +kernel
theorem d_H_dropOthers_29 : decode c_H_dropOthers 29 = .ok (.getfield 9, 3) := by decide +kernel
theorem d_H_dropOthers_32 : decode c_H_dropOthers 32 = .ok (.iload_n 1, 1) := by decide +kernel
theorem d_H_dropOthers_33 : decode c_H_dropOthers 33 = .ok (.iaload, 1) := by decide +kernel
theorem d_H_dropOthers_34 : decode c_H_dropOthers 34 = .ok (.invokevirtual 45, 3) := by decide +kernel
theorem d_H_dropOthers_37 : decode c_H_dropOthers 37 = .ok (.iconst 0, 1) := by decide +kernel
theorem d_H_dropOthers_38 : decode c_H_dropOthers 38 = .ok (.istore 4, 2) := by decide +kernel
theorem d_H_dropOthers_40 : decode c_H_dropOthers 40 = .ok (.iload 4, 2) := by decide +kernel
theorem d_H_dropOthers_42 : decode c_H_dropOthers 42 = .ok (.iconst 4, 1) := by decide +kernel
theorem d_H_dropOthers_43 : decode c_H_dropOthers 43 = .ok (.if_icmp .ge 35, 3) := by decide +kernel
theorem d_H_dropOthers_46 : decode c_H_dropOthers 46 = .ok (.iload_n 3, 1) := by decide +kernel
theorem d_H_dropOthers_47 : decode c_H_dropOthers 47 = .ok (.iload 4, 2) := by decide +kernel
theorem d_H_dropOthers_49 : decode c_H_dropOthers 49 = .ok (.invokestatic 52, 3) := by decide +kernel
theorem d_H_dropOthers_52 : decode c_H_dropOthers 52 = .ok (.iand, 1) := by decide +kernel
theorem d_H_dropOthers_53 : decode c_H_dropOthers 53 = .ok (.ifCond .eq 19, 3) := by decide +kernel
theorem d_H_dropOthers_56 : decode c_H_dropOthers 56 = .ok (.aload_n 0, 1) := by decide +kernel
theorem d_H_dropOthers_57 : decode c_H_dropOthers 57 = .ok (.getfield 24, 3) := by decide +kernel
theorem d_H_dropOthers_60 : decode c_H_dropOthers 60 = .ok (.bipush 7, 2) := by decide +kernel
theorem d_H_dropOthers_62 : decode c_H_dropOthers 62 = .ok (.iload_n 1, 1) := by decide +kernel
theorem d_H_dropOthers_63 : decode c_H_dropOthers 63 = .ok (.iconst 4, 1) := by decide +kernel
theorem d_H_dropOthers_64 : decode c_H_dropOthers 64 = .ok (.iload 4, 2) := by decide +kernel
theorem d_H_dropOthers_66 : decode c_H_dropOthers 66 = .ok (.iload_n 2, 1) := by decide +kernel
theorem d_H_dropOthers_67 : decode c_H_dropOthers 67 = .ok (.iconst 0, 1) := by decide +kernel
theorem d_H_dropOthers_68 : decode c_H_dropOthers 68 = .ok (.iconst 0, 1) := by decide +kernel
theorem d_H_dropOthers_69 : decode c_H_dropOthers 69 = .ok (.invokevirtual 45, 3) := by decide +kernel
theorem d_H_dropOthers_72 : decode c_H_dropOthers 72 = .ok (.iinc 4 1, 3) := by decide +kernel
theorem d_H_dropOthers_75 : decode c_H_dropOthers 75 = .ok (.goto (-35), 3) := by decide +kernel
theorem d_H_dropOthers_78 : decode c_H_dropOthers 78 = .ok (.aload_n 0, 1) := by decide +kernel
theorem d_H_dropOthers_79 : decode c_H_dropOthers 79 = .ok (.getfield 21, 3) := by decide +kernel
theorem d_H_dropOthers_82 : decode c_H_dropOthers 82 = .ok (.iload_n 1, 1) := by decide +kernel
theorem d_H_dropOthers_83 : decode c_H_dropOthers 83 = .ok (.iconst 0, 1) := by decide +kernel
theorem d_H_dropOthers_84 : decode c_H_dropOthers 84 = .ok (.iastore, 1) := by decide +kernel
theorem d_H_dropOthers_85 : decode c_H_dropOthers 85 = .ok (.return_, 1) := by decide +kernel
theorem d_H_takeLeave_0 : decode c_H_takeLeave 0 = .ok (.aload_n 0, 1) := by decide +kernel
theorem d_H_takeLeave_1 : decode c_H_takeLeave 1 = .ok (.getfield 15, 3) := by decide +kernel
theorem d_H_takeLeave_4 : decode c_H_takeLeave 4 = .ok (.iload_n 2, 1) := by decide +kernel
theorem d_H_takeLeave_5 : decode c_H_takeLeave 5 = .ok (.iaload, 1) := by decide +kernel
theorem d_H_takeLeave_6 : decode c_H_takeLeave 6 = .ok (.iconst 2, 1) := by decide +kernel
theorem d_H_takeLeave_7 : decode c_H_takeLeave 7 = .ok (.if_icmp .ne 52, 3) := by decide +kernel
theorem d_H_takeLeave_10 : decode c_H_takeLeave 10 = .ok (.aload_n 0, 1) := by decide +kernel
theorem d_H_takeLeave_11 : decode c_H_takeLeave 11 = .ok (.getfield 18, 3) := by decide +kernel
theorem d_H_takeLeave_14 : decode c_H_takeLeave 14 = .ok (.iload_n 2, 1) := by decide +kernel
theorem d_H_takeLeave_15 : decode c_H_takeLeave 15 = .ok (.iaload, 1) := by decide +kernel
theorem d_H_takeLeave_16 : decode c_H_takeLeave 16 = .ok (.iload_n 3, 1) := by decide +kernel
theorem d_H_takeLeave_17 : decode c_H_takeLeave 17 = .ok (.if_icmp .ne 42, 3) := by decide +kernel
theorem d_H_takeLeave_20 : decode c_H_takeLeave 20 = .ok (.aload_n 0, 1) := by decide +kernel
theorem d_H_takeLeave_21 : decode c_H_takeLeave 21 = .ok (.getfield 24, 3) := by decide +kernel
theorem d_H_takeLeave_24 : decode c_H_takeLeave 24 = .ok (.iload_n 1, 1) := by decide +kernel
theorem d_H_takeLeave_25 : decode c_H_takeLeave 25 = .ok (.iconst 0, 1) := by decide +kernel
theorem d_H_takeLeave_26 : decode c_H_takeLeave 26 = .ok (.invokevirtual 28, 3) := by decide +kernel
theorem d_H_takeLeave_29 : decode c_H_takeLeave 29 = .ok (.iconst 4, 1) := by decide +kernel
theorem d_H_takeLeave_30 : decode c_H_takeLeave 30 = .ok (.if_icmp .ne 19, 3) := by decide +kernel
theorem d_H_takeLeave_33 : decode c_H_takeLeave 33 = .ok (.aload_n 0, 1) := by decide +kernel
theorem d_H_takeLeave_34 : decode c_H_takeLeave 34 = .ok (.getfield 9, 3) := by decide +kernel
theorem d_H_takeLeave_37 : decode c_H_takeLeave 37 = .ok (.iload_n 2, 1) := by decide +kernel
theorem d_H_takeLeave_38 : decode c_H_takeLeave 38 = .ok (.aload_n 0, 1) := by decide +kernel
theorem d_H_takeLeave_39 : decode c_H_takeLeave 39 = .ok (.getfield 24, 3) := by decide +kernel
theorem d_H_takeLeave_42 : decode c_H_takeLeave 42 = .ok (.iload_n 1, 1) := by decide +kernel
theorem d_H_takeLeave_43 : decode c_H_takeLeave 43 = .ok (.bipush 6, 2) := by decide +kernel
theorem d_H_takeLeave_45 : decode c_H_takeLeave 45 = .ok (.invokevirtual 28, 3) := by decide +kernel
theorem d_H_takeLeave_48 : decode c_H_takeLeave 48 = .ok (.iastore, 1) := by decide +kernel
theorem d_H_takeLeave_49 : decode c_H_takeLeave 49 = .ok (.aload_n 0, 1) := by decide +kernel
theorem d_H_takeLeave_50 : decode c_H_takeLeave 50 = .ok (.getfield 15, 3) := by decide +kernel
theorem d_H_takeLeave_53 : decode c_H_takeLeave 53 = .ok (.iload_n 2, 1) := by decide +kernel
theorem d_H_takeLeave_54 : decode c_H_takeLeave 54 = .ok (.iconst 0, 1) := by decide +kernel
theorem d_H_takeLeave_55 : decode c_H_takeLeave 55 = .ok (.iastore, 1) := by decide +kernel
theorem d_H_takeLeave_56 : decode c_H_takeLeave 56 = .ok (.goto 9, 3) := by decide +kernel
theorem d_H_takeLeave_59 : decode c_H_takeLeave 59 = .ok (.aload_n 0, 1) := by decide +kernel
theorem d_H_takeLeave_60 : decode c_H_takeLeave 60 = .ok (.iload_n 2, 1) := by decide +kernel
theorem d_H_takeLeave_61 : decode c_H_takeLeave 61 = .ok (.iload_n 3, 1) := by decide +kernel
theorem d_H_takeLeave_62 : decode c_H_takeLeave 62 = .ok (.invokevirtual 64, 3) := by decide +kernel
theorem d_H_takeLeave_65 : decode c_H_takeLeave 65 = .ok (.aload_n 0, 1) := by decide +kernel
theorem d_H_takeLeave_66 : decode c_H_takeLeave 66 = .ok (.getfield 24, 3) := by decide +kernel
theorem d_H_takeLeave_69 : decode c_H_takeLeave 69 = .ok (.bipush 8, 2) := by decide +kernel
theorem d_H_takeLeave_71 : decode c_H_takeLeave 71 = .ok (.iload_n 2, 1) := by decide +kernel
theorem d_H_takeLeave_72 : decode c_H_takeLeave 72 = .ok (.iconst 4, 1) := by decide +kernel
theorem d_H_takeLeave_73 : decode c_H_takeLeave 73 = .ok (.iload_n 3, 1) := by decide +kernel
theorem d_H_takeLeave_74 : decode c_H_takeLeave 74 = .ok (.iload_n 3, 1) := by decide +kernel
theorem d_H_takeLeave_75 : decode c_H_takeLeave 75 = .ok (.iconst 0, 1) := by decide +kernel
theorem d_H_takeLeave_76 : decode c_H_takeLeave 76 = .ok (.iconst 0, 1) := by decide +kernel
theorem d_H_takeLeave_77 : decode c_H_takeLeave 77 = .ok (.invokevirtual 45, 3) := by decide +kernel
theorem d_H_takeLeave_80 : decode c_H_takeLeave 80 = .ok (.return_, 1) := by decide +kernel
theorem d_H_forgetSharer_0 : decode c_H_forgetSharer 0 = .ok (.aload_n 0, 1) := by decide +kernel
theorem d_H_forgetSharer_1 : decode c_H_forgetSharer 1 = .ok (.getfield 21, 3) := by decide +kernel
theorem d_H_forgetSharer_4 : decode c_H_forgetSharer 4 = .ok (.iload_n 1, 1) := by decide +kernel
theorem d_H_forgetSharer_5 : decode c_H_forgetSharer 5 = .ok (.dup2, 1) := by decide +kernel
theorem d_H_forgetSharer_6 : decode c_H_forgetSharer 6 = .ok (.iaload, 1) := by decide +kernel
theorem d_H_forgetSharer_7 : decode c_H_forgetSharer 7 = .ok (.iload_n 2, 1) := by decide +kernel
theorem d_H_forgetSharer_8 : decode c_H_forgetSharer 8 = .ok (.invokestatic 52, 3) := by decide +kernel
theorem d_H_forgetSharer_11 : decode c_H_forgetSharer 11 = .ok (.iconst (-1), 1) := by decide +kernel
theorem d_H_forgetSharer_12 : decode c_H_forgetSharer 12 = .ok (.ixor, 1) := by decide +kernel
theorem d_H_forgetSharer_13 : decode c_H_forgetSharer 13 = .ok (.iand, 1) := by decide +kernel
theorem d_H_forgetSharer_14 : decode c_H_forgetSharer 14 = .ok (.iastore, 1) := by decide +kernel
theorem d_H_forgetSharer_15 : decode c_H_forgetSharer 15 = .ok (.aload_n 0, 1) := by decide +kernel
theorem d_H_forgetSharer_16 : decode c_H_forgetSharer 16 = .ok (.getfield 15, 3) := by decide +kernel
theorem d_H_forgetSharer_19 : decode c_H_forgetSharer 19 = .ok (.iload_n 1, 1) := by decide +kernel
theorem d_H_forgetSharer_20 : decode c_H_forgetSharer 20 = .ok (.iaload, 1) := by decide +kernel
theorem d_H_forgetSharer_21 : decode c_H_forgetSharer 21 = .ok (.iconst 1, 1) := by decide +kernel
theorem d_H_forgetSharer_22 : decode c_H_forgetSharer 22 = .ok (.if_icmp .ne 19, 3) := by decide +kernel
theorem d_H_forgetSharer_25 : decode c_H_forgetSharer 25 = .ok (.aload_n 0, 1) := by decide +kernel
theorem d_H_forgetSharer_26 : decode c_H_forgetSharer 26 = .ok (.getfield 21, 3) := by decide +kernel
theorem d_H_forgetSharer_29 : decode c_H_forgetSharer 29 = .ok (.iload_n 1, 1) := by decide +kernel
theorem d_H_forgetSharer_30 : decode c_H_forgetSharer 30 = .ok (.iaload, 1) := by decide +kernel
theorem d_H_forgetSharer_31 : decode c_H_forgetSharer 31 = .ok (.ifCond .ne 10, 3) := by decide +kernel
theorem d_H_forgetSharer_34 : decode c_H_forgetSharer 34 = .ok (.aload_n 0, 1) := by decide +kernel
theorem d_H_forgetSharer_35 : decode c_H_forgetSharer 35 = .ok (.getfield 15, 3) := by decide +kernel
theorem d_H_forgetSharer_38 : decode c_H_forgetSharer 38 = .ok (.iload_n 1, 1) := by decide +kernel
theorem d_H_forgetSharer_39 : decode c_H_forgetSharer 39 = .ok (.iconst 0, 1) := by decide +kernel
theorem d_H_forgetSharer_40 : decode c_H_forgetSharer 40 = .ok (.iastore, 1) := by decide +kernel
theorem d_H_forgetSharer_41 : decode c_H_forgetSharer 41 = .ok (.return_, 1) := by decide +kernel
theorem d_H_makeOwner_0 : decode c_H_makeOwner 0 = .ok (.aload_n 0, 1) := by decide +kernel
theorem d_H_makeOwner_1 : decode c_H_makeOwner 1 = .ok (.getfield 18, 3) := by decide +kernel
theorem d_H_makeOwner_4 : decode c_H_makeOwner 4 = .ok (.iload_n 2, 1) := by decide +kernel
theorem d_H_makeOwner_5 : decode c_H_makeOwner 5 = .ok (.iload_n 1, 1) := by decide +kernel
theorem d_H_makeOwner_6 : decode c_H_makeOwner 6 = .ok (.iastore, 1) := by decide +kernel
theorem d_H_makeOwner_7 : decode c_H_makeOwner 7 = .ok (.aload_n 0, 1) := by decide +kernel
theorem d_H_makeOwner_8 : decode c_H_makeOwner 8 = .ok (.getfield 15, 3) := by decide +kernel
theorem d_H_makeOwner_11 : decode c_H_makeOwner 11 = .ok (.iload_n 2, 1) := by decide +kernel
theorem d_H_makeOwner_12 : decode c_H_makeOwner 12 = .ok (.iconst 2, 1) := by decide +kernel
theorem d_H_makeOwner_13 : decode c_H_makeOwner 13 = .ok (.iastore, 1) := by decide +kernel
theorem d_H_makeOwner_14 : decode c_H_makeOwner 14 = .ok (.return_, 1) := by decide +kernel
theorem d_H_bit_0 : decode c_H_bit 0 = .ok (.iconst 1, 1) := by decide +kernel
theorem d_H_bit_1 : decode c_H_bit 1 = .ok (.iload_n 0, 1) := by decide +kernel
theorem d_H_bit_2 : decode c_H_bit 2 = .ok (.ishl, 1) := by decide +kernel
theorem d_H_bit_3 : decode c_H_bit 3 = .ok (.ireturn, 1) := by decide +kernel
