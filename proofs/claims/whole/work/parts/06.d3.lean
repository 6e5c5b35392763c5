theorem d_M_init_0 : decode c_M_init 0 = .ok (.aload_n 0, 1) := by decide +kernel
theorem d_M_init_1 : decode c_M_init 1 = .ok (.invokespecial 1, 3) := by decide +kernel
theorem d_M_init_4 : decode c_M_init 4 = .ok (.aload_n 0, 1) := by decide +kernel
theorem d_M_init_5 : decode c_M_init 5 = .ok (.bipush 16, 2) := by decide +kernel
theorem d_M_init_7 : decode c_M_init 7 = .ok (.newarray .int, 2) := by decide +kernel
theorem d_M_init_9 : decode c_M_init 9 = .ok (.putfield 7, 3) := by decide +kernel
theorem d_M_init_12 : decode c_M_init 12 = .ok (.aload_n 0, 1) := by decide +kernel
theorem d_M_init_13 : decode c_M_init 13 = .ok (.bipush 16, 2) := by decide +kernel
theorem d_M_init_15 : decode c_M_init 15 = .ok (.newarray .int, 2) := by decide +kernel
theorem d_M_init_17 : decode c_M_init 17 = .ok (.putfield 13, 3) := by decide +kernel
theorem d_M_init_20 : decode c_M_init 20 = .ok (.aload_n 0, 1) := by decide +kernel
theorem d_M_init_21 : decode c_M_init 21 = .ok (.bipush 16, 2) := by decide +kernel
theorem d_M_init_23 : decode c_M_init 23 = .ok (.newarray .int, 2) := by decide +kernel
theorem d_M_init_25 : decode c_M_init 25 = .ok (.putfield 16, 3) := by decide +kernel
theorem d_M_init_28 : decode c_M_init 28 = .ok (.aload_n 0, 1) := by decide +kernel
theorem d_M_init_29 : decode c_M_init 29 = .ok (.bipush 16, 2) := by decide +kernel
theorem d_M_init_31 : decode c_M_init 31 = .ok (.newarray .int, 2) := by decide +kernel
theorem d_M_init_33 : decode c_M_init 33 = .ok (.putfield 19, 3) := by decide +kernel
theorem d_M_init_36 : decode c_M_init 36 = .ok (.aload_n 0, 1) := by decide +kernel
theorem d_M_init_37 : decode c_M_init 37 = .ok (.bipush 16, 2) := by decide +kernel
theorem d_M_init_39 : decode c_M_init 39 = .ok (.newarray .int, 2) := by decide +kernel
theorem d_M_init_41 : decode c_M_init 41 = .ok (.putfield 22, 3) := by decide +kernel
theorem d_M_init_44 : decode c_M_init 44 = .ok (.aload_n 0, 1) := by decide +kernel
theorem d_M_init_45 : decode c_M_init 45 = .ok (.iconst 4, 1) := by decide +kernel
theorem d_M_init_46 : decode c_M_init 46 = .ok (.newarray .boolean, 2) := by decide +kernel
theorem d_M_init_48 : decode c_M_init 48 = .ok (.putfield 25, 3) := by decide +kernel
theorem d_M_init_51 : decode c_M_init 51 = .ok (.aload_n 0, 1) := by decide +kernel
theorem d_M_init_52 : decode c_M_init 52 = .ok (.iconst 4, 1) := by decide +kernel
theorem d_M_init_53 : decode c_M_init 53 = .ok (.newarray .int, 2) := by decide +kernel
theorem d_M_init_55 : decode c_M_init 55 = .ok (.putfield 29, 3) := by decide +kernel
theorem d_M_init_58 : decode c_M_init 58 = .ok (.aload_n 0, 1) := by decide +kernel
theorem d_M_init_59 : decode c_M_init 59 = .ok (.iconst 4, 1) := by decide +kernel
theorem d_M_init_60 : decode c_M_init 60 = .ok (.newarray .int, 2) := by decide +kernel
theorem d_M_init_62 : decode c_M_init 62 = .ok (.putfield 32, 3) := by decide +kernel
theorem d_M_init_65 : decode c_M_init 65 = .ok (.aload_n 0, 1) := by decide +kernel
theorem d_M_init_66 : decode c_M_init 66 = .ok (.iconst 4, 1) := by decide +kernel
theorem d_M_init_67 : decode c_M_init 67 = .ok (.newarray .int, 2) := by decide +kernel
theorem d_M_init_69 : decode c_M_init 69 = .ok (.putfield 35, 3) := by decide +kernel
theorem d_M_init_72 : decode c_M_init 72 = .ok (.aload_n 0, 1) := by decide +kernel
theorem d_M_init_73 : decode c_M_init 73 = .ok (.iconst 4, 1) := by decide +kernel
theorem d_M_init_74 : decode c_M_init 74 = .ok (.newarray .int, 2) := by decide +kernel
theorem d_M_init_76 : decode c_M_init 76 = .ok (.putfield 38, 3) := by decide +kernel
theorem d_M_init_79 : decode c_M_init 79 = .ok (.aload_n 0, 1) := by decide +kernel
theorem d_M_init_80 : decode c_M_init 80 = .ok (.iconst 4, 1) := by decide +kernel
theorem d_M_init_81 : decode c_M_init 81 = .ok (.newarray .int, 2) := by decide +kernel
theorem d_M_init_83 : decode c_M_init 83 = .ok (.putfield 41, 3) := by decide +kernel
theorem d_M_init_86 : decode c_M_init 86 = .ok (.aload_n 0, 1) := by decide +kernel
theorem d_M_init_87 : decode c_M_init 87 = .ok (.iconst 4, 1) := by decide +kernel
theorem d_M_init_88 : decode c_M_init 88 = .ok (.newarray .int, 2) := by decide +kernel
theorem d_M_init_90 : decode c_M_init 90 = .ok (.putfield 44, 3) := by decide +kernel
theorem d_M_init_93 : decode c_M_init 93 = .ok (.aload_n 0, 1) := by decide +kernel
theorem d_M_init_94 : decode c_M_init 94 = .ok (.iconst 4, 1) := by decide +kernel
theorem d_M_init_95 : decode c_M_init 95 = .ok (.newarray .int, 2) := by decide +kernel
theorem d_M_init_97 : decode c_M_init 97 = .ok (.putfield 47, 3) := by decide +kernel
theorem d_M_init_100 : decode c_M_init 100 = .ok (.aload_n 0, 1) := by decide +kernel
theorem d_M_init_101 : decode c_M_init 101 = .ok (.iconst 4, 1) := by decide +kernel
theorem d_M_init_102 : decode c_M_init 102 = .ok (.newarray .int, 2) := by decide +kernel
theorem d_M_init_104 : decode c_M_init 104 = .ok (.putfield 50, 3) := by decide +kernel
theorem d_M_init_107 : decode c_M_init 107 = .ok (.aload_n 0, 1) := by decide +kernel
theorem d_M_init_108 : decode c_M_init 108 = .ok (.iconst 4, 1) := by decide +kernel
theorem d_M_init_109 : decode c_M_init 109 = .ok (.newarray .int, 2) := by decide +kernel
theorem d_M_init_111 : decode c_M_init 111 = .ok (.putfield 53, 3) := by decide +kernel
theorem d_M_init_114 : decode c_M_init 114 = .ok (.aload_n 0, 1) := by decide +kernel
theorem d_M_init_115 : decode c_M_init 115 = .ok (.sipush 200, 3) := by decide +kernel
theorem d_M_init_118 : decode c_M_init 118 = .ok (.newarray .int, 2) := by decide +kernel
theorem d_M_init_120 : decode c_M_init 120 = .ok (.putfield 56, 3) := by decide +kernel
theorem d_M_init_123 : decode c_M_init 123 = .ok (.aload_n 0, 1) := by decide +kernel
theorem d_M_init_124 : decode c_M_init 124 = .ok (.sipush 200, 3) := by decide +kernel
theorem d_M_init_127 : decode c_M_init 127 = .ok (.newarray .int, 2) := by decide +kernel
theorem d_M_init_129 : decode c_M_init 129 = .ok (.putfield 59, 3) := by decide +kernel
theorem d_M_init_132 : decode c_M_init 132 = .ok (.aload_n 0, 1) := by decide +kernel
theorem d_M_init_133 : decode c_M_init 133 = .ok (.sipush 200, 3) := by decide +kernel
theorem d_M_init_136 : decode c_M_init 136 = .ok (.newarray .int, 2) := by decide +kernel
theorem d_M_init_138 : decode c_M_init 138 = .ok (.putfield 62, 3) := by decide +kernel
theorem d_M_init_141 : decode c_M_init 141 = .ok (.aload_n 0, 1) := by decide +kernel
theorem d_M_init_142 : decode c_M_init 142 = .ok (.sipush 200, 3) := by decide +kernel
theorem d_M_init_145 : decode c_M_init 145 = .ok (.newarray .int, 2) := by decide +kernel
theorem d_M_init_147 : decode c_M_init 147 = .ok (.putfield 65, 3) := by decide +kernel
theorem d_M_init_150 : decode c_M_init 150 = .ok (.aload_n 0, 1) := by decide +kernel
theorem d_M_init_151 : decode c_M_init 151 = .ok (.sipush 200, 3) := by decide +kernel
theorem d_M_init_154 : decode c_M_init 154 = .ok (.newarray .int, 2) := by decide +kernel
theorem d_M_init_156 : decode c_M_init 156 = .ok (.putfield 68, 3) := by decide +kernel
theorem d_M_init_159 : decode c_M_init 159 = .ok (.aload_n 0, 1) := by decide +kernel
theorem d_M_init_160 : decode c_M_init 160 = .ok (.sipush 200, 3) := by decide +kernel
theorem d_M_init_163 : decode c_M_init 163 = .ok (.newarray .int, 2) := by decide +kernel
theorem d_M_init_165 : decode c_M_init 165 = .ok (.putfield 71, 3) := by decide +kernel
theorem d_M_init_168 : decode c_M_init 168 = .ok (.aload_n 0, 1) := by decide +kernel
theorem d_M_init_169 : decode c_M_init 169 = .ok (.sipush 200, 3) := by decide +kernel
theorem d_M_init_172 : decode c_M_init 172 = .ok (.newarray .int, 2) := by decide +kernel
theorem d_M_init_174 : decode c_M_init 174 = .ok (.putfield 74, 3) := by decide +kernel
theorem d_M_init_177 : decode c_M_init 177 = .ok (.return_, 1) := by decide +kernel
theorem d_M_isFour_0 : decode c_M_isFour 0 = .ok (.iload_n 0, 1) := by decide +kernel
theorem d_M_isFour_1 : decode c_M_isFour 1 = .ok (.ifCond .lt 12, 3) := by decide +kernel
theorem d_M_isFour_4 : decode c_M_isFour 4 = .ok (.iload_n 0, 1) := by decide +kernel
theorem d_M_isFour_5 : decode c_M_isFour 5 = .ok (.iconst 3, 1) := by decide +kernel
theorem d_M_isFour_6 : decode c_M_isFour 6 = .ok (.if_icmp .gt 7, 3) := by decide +kernel
theorem d_M_isFour_9 : decode c_M_isFour 9 = .ok (.iconst 1, 1) := by decide +kernel
theorem d_M_isFour_10 : decode c_M_isFour 10 = .ok (.goto 4, 3) := by decide +kernel
theorem d_M_isFour_13 : decode c_M_isFour 13 = .ok (.iconst 0, 1) := by decide +kernel
theorem d_M_isFour_14 : decode c_M_isFour 14 = .ok (.ireturn, 1) := by decide +kernel
theorem d_M_send_0 : decode c_M_send 0 = .ok (.aload_n 0, 1) := by decide +kernel
theorem d_M_send_1 : decode c_M_send 1 = .ok (.iload_n 1, 1) := by decide +kernel
theorem d_M_send_2 : decode c_M_send 2 = .ok (.iload_n 2, 1) := by decide +kernel
theorem d_M_send_3 : decode c_M_send 3 = .ok (.iload_n 3, 1) := by decide +kernel
theorem d_M_send_4 : decode c_M_send 4 = .ok (.iload 4, 2) := by decide +kernel
theorem d_M_send_6 : decode c_M_send 6 = .ok (.iload 5, 2) := by decide +kernel
theorem d_M_send_8 : decode c_M_send 8 = .ok (.iload 6, 2) := by decide +kernel
theorem d_M_send_10 : decode c_M_send 10 = .ok (.iconst 0, 1) := by decide +kernel
theorem d_M_send_11 : decode c_M_send 11 = .ok (.invokevirtual 77, 3) := by decide +kernel
theorem d_M_send_14 : decode c_M_send 14 = .ok (.return_, 1) := by decide +kernel
theorem d_M_sendWith_0 : decode c_M_sendWith 0 = .ok (.aload_n 0, 1) := by decide +kernel
theorem d_M_sendWith_1 : decode c_M_sendWith 1 = .ok (.getfield 56, 3) := by decide +kernel
theorem d_M_sendWith_4 : decode c_M_sendWith 4 = .ok (.aload_n 0, 1) := by decide +kernel
theorem d_M_sendWith_5 : decode c_M_sendWith 5 = .ok (.getfield 81, 3) := by decide +kernel
theorem d_M_sendWith_8 : decode c_M_sendWith 8 = .ok (.iload_n 1, 1) := by decide +kernel
theorem d_M_sendWith_9 : decode c_M_sendWith 9 = .ok (.iastore, 1) := by decide +kernel
theorem d_M_sendWith_10 : decode c_M_sendWith 10 = .ok (.aload_n 0, 1) := by decide +kernel
theorem d_M_sendWith_11 : decode c_M_sendWith 11 = .ok (.getfield 59, 3) := by decide +kernel
theorem d_M_sendWith_14 : decode c_M_sendWith 14 = .ok (.aload_n 0, 1) := by decide +kernel
theorem d_M_sendWith_15 : decode c_M_sendWith 15 = .ok (.getfield 81, 3) := by decide +kernel
theorem d_M_sendWith_18 : decode c_M_sendWith 18 = .ok (.iload_n 2, 1) := by decide +kernel
theorem d_M_sendWith_19 : decode c_M_sendWith 19 = .ok (.iastore, 1) := by decide +kernel
theorem d_M_sendWith_20 : decode c_M_sendWith 20 = .ok (.aload_n 0, 1) := by decide +kernel
theorem d_M_sendWith_21 : decode c_M_sendWith 21 = .ok (.getfield 62, 3) := by decide +kernel
theorem d_M_sendWith_24 : decode c_M_sendWith 24 = .ok (.aload_n 0, 1) := by decide +kernel
theorem d_M_sendWith_25 : decode c_M_sendWith 25 = .ok (.getfield 81, 3) := by decide +kernel
theorem d_M_sendWith_28 : decode c_M_sendWith 28 = .ok (.iload_n 3, 1) := by decide +kernel
theorem d_M_sendWith_29 : decode c_M_sendWith 29 = .ok (.iastore, 1) := by decide +kernel
theorem d_M_sendWith_30 : decode c_M_sendWith 30 = .ok (.aload_n 0, 1) := by decide +kernel
theorem d_M_sendWith_31 : decode c_M_sendWith 31 = .ok (.getfield 65, 3) := by decide +kernel
theorem d_M_sendWith_34 : decode c_M_sendWith 34 = .ok (.aload_n 0, 1) := by decide +kernel
theorem d_M_sendWith_35 : decode c_M_sendWith 35 = .ok (.getfield 81, 3) := by decide +kernel
theorem d_M_sendWith_38 : decode c_M_sendWith 38 = .ok (.iload 4, 2) := by decide +kernel
theorem d_M_sendWith_40 : decode c_M_sendWith 40 = .ok (.iastore, 1) := by decide +kernel
theorem d_M_sendWith_41 : decode c_M_sendWith 41 = .ok (.aload_n 0, 1) := by decide +kernel
theorem d_M_sendWith_42 : decode c_M_sendWith 42 = .ok (.getfield 68, 3) := by decide +kernel
theorem d_M_sendWith_45 : decode c_M_sendWith 45 = .ok (.aload_n 0, 1) := by decide +kernel
theorem d_M_sendWith_46 : decode c_M_sendWith 46 = .ok (.getfield 81, 3) := by decide +kernel
theorem d_M_sendWith_49 : decode c_M_sendWith 49 = .ok (.iload 5, 2) := by decide +kernel
theorem d_M_sendWith_51 : decode c_M_sendWith 51 = .ok (.iastore, 1) := by decide +kernel
theorem d_M_sendWith_52 : decode c_M_sendWith 52 = .ok (.aload_n 0, 1) := by decide +kernel
theorem d_M_sendWith_53 : decode c_M_sendWith 53 = .ok (.getfield 71, 3) := by decide +kernel
theorem d_M_sendWith_56 : decode c_M_sendWith 56 = .ok (.aload_n 0, 1) := by decide +kernel
theorem d_M_sendWith_57 : decode c_M_sendWith 57 = .ok (.getfield 81, 3) := by decide +kernel
theorem d_M_sendWith_60 : decode c_M_sendWith 60 = .ok (.iload 6, 2) := by decide +kernel
theorem d_M_sendWith_62 : decode c_M_sendWith 62 = .ok (.iastore, 1) := by decide +kernel
theorem d_M_sendWith_63 : decode c_M_sendWith 63 = .ok (.aload_n 0, 1) := by decide +kernel
theorem d_M_sendWith_64 : decode c_M_sendWith 64 = .ok (.getfield 74, 3) := by decide +kernel
theorem d_M_sendWith_67 : decode c_M_sendWith 67 = .ok (.aload_n 0, 1) := by decide +kernel
theorem d_M_sendWith_68 : decode c_M_sendWith 68 = .ok (.getfield 81, 3) := by decide +kernel
theorem d_M_sendWith_71 : decode c_M_sendWith 71 = .ok (.iload 7, 2) := by decide +kernel
theorem d_M_sendWith_73 : decode c_M_sendWith 73 = .ok (.iastore, 1) := by decide +kernel
theorem d_M_sendWith_74 : decode c_M_sendWith 74 = .ok (.aload_n 0, 1) := by decide +kernel
theorem d_M_sendWith_75 : decode c_M_sendWith 75 = .ok (.dup, 1) := by decide +kernel
theorem d_M_sendWith_76 : decode c_M_sendWith 76 = .ok (.getfield 81, 3) := by decide +kernel
theorem d_M_sendWith_79 : decode c_M_sendWith 79 = .ok (.iconst 1, 1) := by decide +kernel
theorem d_M_sendWith_80 : decode c_M_sendWith 80 = .ok (.iadd, 1) := by decide +kernel
theorem d_M_sendWith_81 : decode c_M_sendWith 81 = .ok (.putfield 81, 3) := by decide +kernel
theorem d_M_sendWith_84 : decode c_M_sendWith 84 = .ok (.aload_n 0, 1) := by decide +kernel
theorem d_M_sendWith_85 : decode c_M_sendWith 85 = .ok (.getfield 22, 3) := by decide +kernel
theorem d_M_sendWith_88 : decode c_M_sendWith 88 = .ok (.iconst 4, 1) := by decide +kernel
theorem d_M_sendWith_89 : decode c_M_sendWith 89 = .ok (.iload 5, 2) := by decide +kernel
theorem d_M_sendWith_91 : decode c_M_sendWith 91 = .ok (.imul, 1) := by decide +kernel
theorem d_M_sendWith_92 : decode c_M_sendWith 92 = .ok (.iload_n 2, 1) := by decide +kernel
theorem d_M_sendWith_93 : decode c_M_sendWith 93 = .ok (.iadd, 1) := by decide +kernel
theorem d_M_sendWith_94 : decode c_M_sendWith 94 = .ok (.iload_n 1, 1) := by decide +kernel
theorem d_M_sendWith_95 : decode c_M_sendWith 95 = .ok (.iconst 5, 1) := by decide +kernel
theorem d_M_sendWith_96 : decode c_M_sendWith 96 = .ok (.if_icmp .ge 7, 3) := by decide +kernel
theorem d_M_sendWith_99 : decode c_M_sendWith 99 = .ok (.iconst 1, 1) := by decide +kernel
theorem d_M_sendWith_100 : decode c_M_sendWith 100 = .ok (.goto 16, 3) := by decide +kernel
theorem d_M_sendWith_103 : decode c_M_sendWith 103 = .ok (.aload_n 0, 1) := by decide +kernel
theorem d_M_sendWith_104 : decode c_M_sendWith 104 = .ok (.getfield 22, 3) := by decide +kernel
theorem d_M_sendWith_107 : decode c_M_sendWith 107 = .ok (.iconst 4, 1) := by decide +kernel
theorem d_M_sendWith_108 : decode c_M_sendWith 108 = .ok (.iload 5, 2) := by decide +kernel
theorem d_M_sendWith_110 : decode c_M_sendWith 110 = .ok (.imul, 1) := by decide +kernel
theorem d_M_sendWith_111 : decode c_M_sendWith 111 = .ok (.iload_n 2, 1) := by decide +kernel
theorem d_M_sendWith_112 : decode c_M_sendWith 112 = .ok (.iadd, 1) := by decide +kernel
theorem d_M_sendWith_113 : decode c_M_sendWith 113 = .ok (.iaload, 1) := by decide +kernel
theorem d_M_sendWith_114 : decode c_M_sendWith 114 = .ok (.iconst 1, 1) := by decide +kernel
theorem d_M_sendWith_115 : decode c_M_sendWith 115 = .ok (.iadd, 1) := by decide +kernel
theorem d_M_sendWith_116 : decode c_M_sendWith 116 = .ok (.iastore, 1) := by decide +kernel
theorem d_M_sendWith_117 : decode c_M_sendWith 117 = .ok (.return_, 1) := by decide +kernel
theorem d_M_strike_0 : decode c_M_strike 0 = .ok (.aload_n 0, 1) := by decide +kernel
theorem d_M_strike_1 : decode c_M_strike 1 = .ok (.dup, 1) := by decide +kernel
theorem d_M_strike_2 : decode c_M_strike 2 = .ok (.getfield 81, 3) := by decide +kernel
theorem d_M_strike_5 : decode c_M_strike 5 = .ok (.iconst 1, 1) := by decide +kernel
theorem d_M_strike_6 : decode c_M_strike 6 = .ok (.isub, 1) := by decide +kernel
theorem d_M_strike_7 : decode c_M_strike 7 = .ok (.putfield 81, 3) := by decide +kernel
theorem d_M_strike_10 : decode c_M_strike 10 = .ok (.iload_n 1, 1) := by decide +kernel
theorem d_M_strike_11 : decode c_M_strike 11 = .ok (.istore_n 2, 1) := by decide +kernel
theorem d_M_strike_12 : decode c_M_strike 12 = .ok (.iload_n 2, 1) := by decide +kernel
theorem d_M_strike_13 : decode c_M_strike 13 = .ok (.aload_n 0, 1) := by decide +kernel
theorem d_M_strike_14 : decode c_M_strike 14 = .ok (.getfield 81, 3) := by decide +kernel
theorem d_M_strike_17 : decode c_M_strike 17 = .ok (.if_icmp .ge 107, 3) := by decide +kernel
theorem d_M_strike_20 : decode c_M_strike 20 = .ok (.aload_n 0, 1) := by decide +kernel
theorem d_M_strike_21 : decode c_M_strike 21 = .ok (.getfield 56, 3) := by decide +kernel
theorem d_M_strike_24 : decode c_M_strike 24 = .ok (.iload_n 2, 1) := by decide +kernel
theorem d_M_strike_25 : decode c_M_strike 25 = .ok (.aload_n 0, 1) := by decide +kernel
theorem d_M_strike_26 : decode c_M_strike 26 = .ok (.getfield 56, 3) := by decide +kernel
theorem d_M_strike_29 : decode c_M_strike 29 = .ok (.iload_n 2, 1) := by decide +kernel
theorem d_M_strike_30 : decode c_M_strike 30 = .ok (.iconst 1, 1) := by decide +kernel
theorem d_M_strike_31 : decode c_M_strike 31 = .ok (.iadd, 1) := by decide +kernel
theorem d_M_strike_32 : decode c_M_strike 32 = .ok (.iaload, 1) := by decide +kernel
theorem d_M_strike_33 : decode c_M_strike 33 = .ok (.iastore, 1) := by decide +kernel
theorem d_M_strike_34 : decode c_M_strike 34 = .ok (.aload_n 0, 1) := by decide +kernel
theorem d_M_strike_35 : decode c_M_strike 35 = .ok (.getfield 59, 3) := by decide +kernel
theorem d_M_strike_38 : decode c_M_strike 38 = .ok (.iload_n 2, 1) := by decide +kernel
theorem d_M_strike_39 : decode c_M_strike 39 = .ok (.aload_n 0, 1) := by decide +kernel
theorem d_M_strike_40 : decode c_M_strike 40 = .ok (.getfield 59, 3) := by decide +kernel
theorem d_M_strike_43 : decode c_M_strike 43 = .ok (.iload_n 2, 1) := by decide +kernel
theorem d_M_strike_44 : decode c_M_strike 44 = .ok (.iconst 1, 1) := by decide +kernel
theorem d_M_strike_45 : decode c_M_strike 45 = .ok (.iadd, 1) := by decide +kernel
theorem d_M_strike_46 : decode c_M_strike 46 = .ok (.iaload, 1) := by decide +kernel
theorem d_M_strike_47 : decode c_M_strike 47 = .ok (.iastore, 1) := by decide +kernel
theorem d_M_strike_48 : decode c_M_strike 48 = .ok (.aload_n 0, 1) := by decide +kernel
theorem d_M_strike_49 : decode c_M_strike 49 = .ok (.getfield 62, 3) := by decide +kernel
theorem d_M_strike_52 : decode c_M_strike 52 = .ok (.iload_n 2, 1) := by decide +kernel
theorem d_M_strike_53 : decode c_M_strike 53 = .ok (.aload_n 0, 1) := by decide +kernel
theorem d_M_strike_54 : decode c_M_strike 54 = .ok (.getfield 62, 3) := by decide +kernel
theorem d_M_strike_57 : decode c_M_strike 57 = .ok (.iload_n 2, 1) := by decide +kernel
theorem d_M_strike_58 : decode c_M_strike 58 = .ok (.iconst 1, 1) := by decide +kernel
theorem d_M_strike_59 : decode c_M_strike 59 = .ok (.iadd, 1) := by decide +kernel
theorem d_M_strike_60 : decode c_M_strike 60 = .ok (.iaload, 1) := by decide +kernel
theorem d_M_strike_61 : decode c_M_strike 61 = .ok (.iastore, 1) := by decide +kernel
theorem d_M_strike_62 : decode c_M_strike 62 = .ok (.aload_n 0, 1) := by decide +kernel
theorem d_M_strike_63 : decode c_M_strike 63 = .ok (.getfield 65, 3) := by decide +kernel
theorem d_M_strike_66 : decode c_M_strike 66 = .ok (.iload_n 2, 1) := by decide +kernel
theorem d_M_strike_67 : decode c_M_strike 67 = .ok (.aload_n 0, 1) := by decide +kernel
theorem d_M_strike_68 : decode c_M_strike 68 = .ok (.getfield 65, 3) := by decide +kernel
theorem d_M_strike_71 : decode c_M_strike 71 = .ok (.iload_n 2, 1) := by decide +kernel
theorem d_M_strike_72 : decode c_M_strike 72 = .ok (.iconst 1, 1) := by decide +kernel
theorem d_M_strike_73 : decode c_M_strike 73 = .ok (.iadd, 1) := by decide +kernel
theorem d_M_strike_74 : decode c_M_strike 74 = .ok (.iaload, 1) := by decide +kernel
theorem d_M_strike_75 : decode c_M_strike 75 = .ok (.iastore, 1) := by decide +kernel
theorem d_M_strike_76 : decode c_M_strike 76 = .ok (.aload_n 0, 1) := by decide +kernel
theorem d_M_strike_77 : decode c_M_strike 77 = .ok (.getfield 68, 3) := by decide +kernel
theorem d_M_strike_80 : decode c_M_strike 80 = .ok (.iload_n 2, 1) := by decide +kernel
theorem d_M_strike_81 : decode c_M_strike 81 = .ok (.aload_n 0, 1) := by decide +kernel
theorem d_M_strike_82 : decode c_M_strike 82 = .ok (.getfield 68, 3) := by decide +kernel
theorem d_M_strike_85 : decode c_M_strike 85 = .ok (.iload_n 2, 1) := by decide +kernel
theorem d_M_strike_86 : decode c_M_strike 86 = .ok (.iconst 1, 1) := by decide +kernel
theorem d_M_strike_87 : decode c_M_strike 87 = .ok (.iadd, 1) := by decide +kernel
theorem d_M_strike_88 : decode c_M_strike 88 = .ok (.iaload, 1) := by decide +kernel
theorem d_M_strike_89 : decode c_M_strike 89 = .ok (.iastore, 1) := by decide +kernel
theorem d_M_strike_90 : decode c_M_strike 90 = .ok (.aload_n 0, 1) := by decide +kernel
theorem d_M_strike_91 : decode c_M_strike 91 = .ok (.getfield 71, 3) := by decide +kernel
theorem d_M_strike_94 : decode c_M_strike 94 = .ok (.iload_n 2, 1) := by decide +kernel
theorem d_M_strike_95 : decode c_M_strike 95 = .ok (.aload_n 0, 1) := by decide +kernel
theorem d_M_strike_96 : decode c_M_strike 96 = .ok (.getfield 71, 3) := by decide +kernel
theorem d_M_strike_99 : decode c_M_strike 99 = .ok (.iload_n 2, 1) := by decide +kernel
theorem d_M_strike_100 : decode c_M_strike 100 = .ok (.iconst 1, 1) := by decide +kernel
theorem d_M_strike_101 : decode c_M_strike 101 = .ok (.iadd, 1) := by decide +kernel
theorem d_M_strike_102 : decode c_M_strike 102 = .ok (.iaload, 1) := by decide +kernel
theorem d_M_strike_103 : decode c_M_strike 103 = .ok (.iastore, 1) := by decide +kernel
theorem d_M_strike_104 : decode c_M_strike 104 = .ok (.aload_n 0, 1) := by decide +kernel
theorem d_M_strike_105 : decode c_M_strike 105 = .ok (.getfield 74, 3) := by decide +kernel
theorem d_M_strike_108 : decode c_M_strike 108 = .ok (.iload_n 2, 1) := by decide +kernel
theorem d_M_strike_109 : decode c_M_strike 109 = .ok (.aload_n 0, 1) := by decide +kernel
theorem d_M_strike_110 : decode c_M_strike 110 = .ok (.getfield 74, 3) := by decide +kernel
theorem d_M_strike_113 : decode c_M_strike 113 = .ok (.iload_n 2, 1) := by decide +kernel
theorem d_M_strike_114 : decode c_M_strike 114 = .ok (.iconst 1, 1) := by decide +kernel
theorem d_M_strike_115 : decode c_M_strike 115 = .ok (.iadd, 1) := by decide +kernel
theorem d_M_strike_116 : decode c_M_strike 116 = .ok (.iaload, 1) := by decide +kernel
theorem d_M_strike_117 : decode c_M_strike 117 = .ok (.iastore, 1) := by decide +kernel
theorem d_M_strike_118 : decode c_M_strike 118 = .ok (.iinc 2 1, 3) := by decide +kernel
theorem d_M_strike_121 : decode c_M_strike 121 = .ok (.goto (-109), 3) := by decide +kernel
theorem d_M_strike_124 : decode c_M_strike 124 = .ok (.return_, 1) := by decide +kernel
theorem d_M_isOrdered_0 : decode c_M_isOrdered 0 = .ok (.iload_n 0, 1) := by decide +kernel
theorem d_M_isOrdered_1 : decode c_M_isOrdered 1 = .ok (.iconst 4, 1) := by decide +kernel
theorem d_M_isOrdered_2 : decode c_M_isOrdered 2 = .ok (.if_icmp .le 13, 3) := by decide +kernel
theorem d_M_isOrdered_5 : decode c_M_isOrdered 5 = .ok (.iload_n 0, 1) := by decide +kernel
theorem d_M_isOrdered_6 : decode c_M_isOrdered 6 = .ok (.bipush 9, 2) := by decide +kernel
theorem d_M_isOrdered_8 : decode c_M_isOrdered 8 = .ok (.if_icmp .ge 7, 3) := by decide +kernel
theorem d_M_isOrdered_11 : decode c_M_isOrdered 11 = .ok (.iconst 1, 1) := by decide +kernel
theorem d_M_isOrdered_12 : decode c_M_isOrdered 12 = .ok (.goto 4, 3) := by decide +kernel
theorem d_M_isOrdered_15 : decode c_M_isOrdered 15 = .ok (.iconst 0, 1) := by decide +kernel
theorem d_M_isOrdered_16 : decode c_M_isOrdered 16 = .ok (.ireturn, 1) := by decide +kernel
theorem d_M_keptBack_0 : decode c_M_keptBack 0 = .ok (.iconst 0, 1) := by decide +kernel
theorem d_M_keptBack_1 : decode c_M_keptBack 1 = .ok (.istore_n 2, 1) := by decide +kernel
theorem d_M_keptBack_2 : decode c_M_keptBack 2 = .ok (.iconst 0, 1) := by decide +kernel
theorem d_M_keptBack_3 : decode c_M_keptBack 3 = .ok (.istore_n 3, 1) := by decide +kernel
theorem d_M_keptBack_4 : decode c_M_keptBack 4 = .ok (.iload_n 3, 1) := by decide +kernel
theorem d_M_keptBack_5 : decode c_M_keptBack 5 = .ok (.iload_n 1, 1) := by decide +kernel
theorem d_M_keptBack_6 : decode c_M_keptBack 6 = .ok (.if_icmp .ge 61, 3) := by decide +kernel
theorem d_M_keptBack_9 : decode c_M_keptBack 9 = .ok (.iload_n 2, 1) := by decide +kernel
theorem d_M_keptBack_10 : decode c_M_keptBack 10 = .ok (.ifCond .ne 45, 3) := by decide +kernel
theorem d_M_keptBack_13 : decode c_M_keptBack 13 = .ok (.aload_n 0, 1) := by decide +kernel
theorem d_M_keptBack_14 : decode c_M_keptBack 14 = .ok (.getfield 56, 3) := by decide +kernel
theorem d_M_keptBack_17 : decode c_M_keptBack 17 = .ok (.iload_n 3, 1) := by decide +kernel
theorem d_M_keptBack_18 : decode c_M_keptBack 18 = .ok (.iaload, 1) := by decide +kernel
theorem d_M_keptBack_19 : decode c_M_keptBack 19 = .ok (.invokestatic 85, 3) := by decide +kernel
theorem d_M_keptBack_22 : decode c_M_keptBack 22 = .ok (.ifCond .eq 37, 3) := by decide +kernel
theorem d_M_keptBack_25 : decode c_M_keptBack 25 = .ok (.aload_n 0, 1) := by decide +kernel
theorem d_M_keptBack_26 : decode c_M_keptBack 26 = .ok (.getfield 59, 3) := by decide +kernel
theorem d_M_keptBack_29 : decode c_M_keptBack 29 = .ok (.iload_n 3, 1) := by decide +kernel
theorem d_M_keptBack_30 : decode c_M_keptBack 30 = .ok (.iaload, 1) := by decide +kernel
theorem d_M_keptBack_31 : decode c_M_keptBack 31 = .ok (.aload_n 0, 1) := by decide +kernel
theorem d_M_keptBack_32 : decode c_M_keptBack 32 = .ok (.getfield 59, 3) := by decide +kernel
theorem d_M_keptBack_35 : decode c_M_keptBack 35 = .ok (.iload_n 1, 1) := by decide +kernel
theorem d_M_keptBack_36 : decode c_M_keptBack 36 = .ok (.iaload, 1) := by decide +kernel
theorem d_M_keptBack_37 : decode c_M_keptBack 37 = .ok (.if_icmp .ne 22, 3) := by decide +kernel
theorem d_M_keptBack_40 : decode c_M_keptBack 40 = .ok (.aload_n 0, 1) := by decide +kernel
theorem d_M_keptBack_41 : decode c_M_keptBack 41 = .ok (.getfield 65, 3) := by decide +kernel
theorem d_M_keptBack_44 : decode c_M_keptBack 44 = .ok (.iload_n 3, 1) := by decide +kernel
theorem d_M_keptBack_45 : decode c_M_keptBack 45 = .ok (.iaload, 1) := by decide +kernel
theorem d_M_keptBack_46 : decode c_M_keptBack 46 = .ok (.aload_n 0, 1) := by decide +kernel
theorem d_M_keptBack_47 : decode c_M_keptBack 47 = .ok (.getfield 65, 3) := by decide +kernel
theorem d_M_keptBack_50 : decode c_M_keptBack 50 = .ok (.iload_n 1, 1) := by decide +kernel
theorem d_M_keptBack_51 : decode c_M_keptBack 51 = .ok (.iaload, 1) := by decide +kernel
theorem d_M_keptBack_52 : decode c_M_keptBack 52 = .ok (.if_icmp .ne 7, 3) := by decide +kernel
theorem d_M_keptBack_55 : decode c_M_keptBack 55 = .ok (.iconst 1, 1) := by decide +kernel
theorem d_M_keptBack_56 : decode c_M_keptBack 56 = .ok (.goto 4, 3) := by decide +kernel
theorem d_M_keptBack_59 : decode c_M_keptBack 59 = .ok (.iconst 0, 1) := by decide +kernel
theorem d_M_keptBack_60 : decode c_M_keptBack 60 = .ok (.istore_n 2, 1) := by decide +kernel
theorem d_M_keptBack_61 : decode c_M_keptBack 61 = .ok (.iinc 3 1, 3) := by decide +kernel
theorem d_M_keptBack_64 : decode c_M_keptBack 64 = .ok (.goto (-60), 3) := by decide +kernel
theorem d_M_keptBack_67 : decode c_M_keptBack 67 = .ok (.iload_n 2, 1) := by decide +kernel
theorem d_M_keptBack_68 : decode c_M_keptBack 68 = .ok (.ifCond .eq 19, 3) := by decide +kernel
theorem d_M_keptBack_71 : decode c_M_keptBack 71 = .ok (.aload_n 0, 1) := by decide +kernel
theorem d_M_keptBack_72 : decode c_M_keptBack 72 = .ok (.getfield 56, 3) := by decide +kernel
theorem d_M_keptBack_75 : decode c_M_keptBack 75 = .ok (.iload_n 1, 1) := by decide +kernel
theorem d_M_keptBack_76 : decode c_M_keptBack 76 = .ok (.iaload, 1) := by decide +kernel
theorem d_M_keptBack_77 : decode c_M_keptBack 77 = .ok (.invokestatic 85, 3) := by decide +kernel
theorem d_M_keptBack_80 : decode c_M_keptBack 80 = .ok (.ifCond .eq 7, 3) := by decide +kernel
theorem d_M_keptBack_83 : decode c_M_keptBack 83 = .ok (.iconst 1, 1) := by decide +kernel
theorem d_M_keptBack_84 : decode c_M_keptBack 84 = .ok (.goto 4, 3) := by decide +kernel
theorem d_M_keptBack_87 : decode c_M_keptBack 87 = .ok (.iconst 0, 1) := by decide +kernel
theorem d_M_keptBack_88 : decode c_M_keptBack 88 = .ok (.ireturn, 1) := by decide +kernel
theorem d_M_digit_0 : decode c_M_digit 0 = .ok (.lload_n 0, 1) := by decide +kernel
theorem d_M_digit_1 : decode c_M_digit 1 = .ok (.iconst 4, 1) := by decide +kernel
theorem d_M_digit_2 : decode c_M_digit 2 = .ok (.iload_n 2, 1) := by decide +kernel
theorem d_M_digit_3 : decode c_M_digit 3 = .ok (.imul, 1) := by decide +kernel
theorem d_M_digit_4 : decode c_M_digit 4 = .ok (.lshr, 1) := by decide +kernel
theorem d_M_digit_5 : decode c_M_digit 5 = .ok (.ldc2_w 89, 3) := by decide +kernel
theorem d_M_digit_8 : decode c_M_digit 8 = .ok (.land, 1) := by decide +kernel
theorem d_M_digit_9 : decode c_M_digit 9 = .ok (.l2i, 1) := by decide +kernel
theorem d_M_digit_10 : decode c_M_digit 10 = .ok (.ireturn, 1) := by decide +kernel
theorem d_M_becomes_0 : decode c_M_becomes 0 = .ok (.iload_n 0, 1) := by decide +kernel
theorem d_M_becomes_1 : decode c_M_becomes 1 = .ok (.iconst 5, 1) := by decide +kernel
theorem d_M_becomes_2 : decode c_M_becomes 2 = .ok (.if_icmp .ne 11, 3) := by decide +kernel
theorem d_M_becomes_5 : decode c_M_becomes 5 = .ok (.ldc2_w 91, 3) := by decide +kernel
theorem d_M_becomes_8 : decode c_M_becomes 8 = .ok (.iload_n 1, 1) := by decide +kernel
theorem d_M_becomes_9 : decode c_M_becomes 9 = .ok (.invokestatic 93, 3) := by decide +kernel
theorem d_M_becomes_12 : decode c_M_becomes 12 = .ok (.ireturn, 1) := by decide +kernel
theorem d_M_becomes_13 : decode c_M_becomes 13 = .ok (.iload_n 0, 1) := by decide +kernel
theorem d_M_becomes_14 : decode c_M_becomes 14 = .ok (.bipush 6, 2) := by decide +kernel
theorem d_M_becomes_16 : decode c_M_becomes 16 = .ok (.if_icmp .ne 11, 3) := by decide +kernel
theorem d_M_becomes_19 : decode c_M_becomes 19 = .ok (.ldc2_w 97, 3) := by decide +kernel
theorem d_M_becomes_22 : decode c_M_becomes 22 = .ok (.iload_n 1, 1) := by decide +kernel
theorem d_M_becomes_23 : decode c_M_becomes 23 = .ok (.invokestatic 93, 3) := by decide +kernel
theorem d_M_becomes_26 : decode c_M_becomes 26 = .ok (.ireturn, 1) := by decide +kernel
theorem d_M_becomes_27 : decode c_M_becomes 27 = .ok (.ldc2_w 99, 3) := by decide +kernel
theorem d_M_becomes_30 : decode c_M_becomes 30 = .ok (.iload_n 1, 1) := by decide +kernel
theorem d_M_becomes_31 : decode c_M_becomes 31 = .ok (.invokestatic 93, 3) := by decide +kernel
theorem d_M_becomes_34 : decode c_M_becomes 34 = .ok (.ireturn, 1) := by decide +kernel
theorem d_M_stalls_0 : decode c_M_stalls 0 = .ok (.aload_n 0, 1) := by decide +kernel
theorem d_M_stalls_1 : decode c_M_stalls 1 = .ok (.getfield 65, 3) := by decide +kernel
theorem d_M_stalls_4 : decode c_M_stalls 4 = .ok (.iload_n 1, 1) := by decide +kernel
theorem d_M_stalls_5 : decode c_M_stalls 5 = .ok (.iaload, 1) := by decide +kernel
theorem d_M_stalls_6 : decode c_M_stalls 6 = .ok (.iconst 4, 1) := by decide +kernel
theorem d_M_stalls_7 : decode c_M_stalls 7 = .ok (.if_icmp .ne 34, 3) := by decide +kernel
theorem d_M_stalls_10 : decode c_M_stalls 10 = .ok (.aload_n 0, 1) := by decide +kernel
theorem d_M_stalls_11 : decode c_M_stalls 11 = .ok (.getfield 56, 3) := by decide +kernel
theorem d_M_stalls_14 : decode c_M_stalls 14 = .ok (.iload_n 1, 1) := by decide +kernel
theorem d_M_stalls_15 : decode c_M_stalls 15 = .ok (.iaload, 1) := by decide +kernel
theorem d_M_stalls_16 : decode c_M_stalls 16 = .ok (.iconst 2, 1) := by decide +kernel
theorem d_M_stalls_17 : decode c_M_stalls 17 = .ok (.if_icmp .ge 22, 3) := by decide +kernel
theorem d_M_stalls_20 : decode c_M_stalls 20 = .ok (.aload_n 0, 1) := by decide +kernel
theorem d_M_stalls_21 : decode c_M_stalls 21 = .ok (.getfield 44, 3) := by decide +kernel
theorem d_M_stalls_24 : decode c_M_stalls 24 = .ok (.aload_n 0, 1) := by decide +kernel
theorem d_M_stalls_25 : decode c_M_stalls 25 = .ok (.getfield 59, 3) := by decide +kernel
theorem d_M_stalls_28 : decode c_M_stalls 28 = .ok (.iload_n 1, 1) := by decide +kernel
theorem d_M_stalls_29 : decode c_M_stalls 29 = .ok (.iaload, 1) := by decide +kernel
theorem d_M_stalls_30 : decode c_M_stalls 30 = .ok (.iaload, 1) := by decide +kernel
theorem d_M_stalls_31 : decode c_M_stalls 31 = .ok (.iconst 3, 1) := by decide +kernel
theorem d_M_stalls_32 : decode c_M_stalls 32 = .ok (.if_icmp .ne 7, 3) := by decide +kernel
theorem d_M_stalls_35 : decode c_M_stalls 35 = .ok (.iconst 1, 1) := by decide +kernel
theorem d_M_stalls_36 : decode c_M_stalls 36 = .ok (.goto 4, 3) := by decide +kernel
theorem d_M_stalls_39 : decode c_M_stalls 39 = .ok (.iconst 0, 1) := by decide +kernel
theorem d_M_stalls_40 : decode c_M_stalls 40 = .ok (.ireturn, 1) := by decide +kernel
theorem d_M_stalls_41 : decode c_M_stalls 41 = .ok (.aload_n 0, 1) := by decide +kernel
theorem d_M_stalls_42 : decode c_M_stalls 42 = .ok (.getfield 56, 3) := by decide +kernel
theorem d_M_stalls_45 : decode c_M_stalls 45 = .ok (.iload_n 1, 1) := by decide +kernel
theorem d_M_stalls_46 : decode c_M_stalls 46 = .ok (.iaload, 1) := by decide +kernel
theorem d_M_stalls_47 : decode c_M_stalls 47 = .ok (.iconst 5, 1) := by decide +kernel
theorem d_M_stalls_48 : decode c_M_stalls 48 = .ok (.if_icmp .lt 52, 3) := by decide +kernel
theorem d_M_stalls_51 : decode c_M_stalls 51 = .ok (.aload_n 0, 1) := by decide +kernel
theorem d_M_stalls_52 : decode c_M_stalls 52 = .ok (.getfield 56, 3) := by decide +kernel
theorem d_M_stalls_55 : decode c_M_stalls 55 = .ok (.iload_n 1, 1) := by decide +kernel
theorem d_M_stalls_56 : decode c_M_stalls 56 = .ok (.iaload, 1) := by decide +kernel
theorem d_M_stalls_57 : decode c_M_stalls 57 = .ok (.bipush 7, 2) := by decide +kernel
theorem d_M_stalls_59 : decode c_M_stalls 59 = .ok (.if_icmp .gt 41, 3) := by decide +kernel
theorem d_M_stalls_62 : decode c_M_stalls 62 = .ok (.aload_n 0, 1) := by decide +kernel
theorem d_M_stalls_63 : decode c_M_stalls 63 = .ok (.getfield 56, 3) := by decide +kernel
theorem d_M_stalls_66 : decode c_M_stalls 66 = .ok (.iload_n 1, 1) := by decide +kernel
theorem d_M_stalls_67 : decode c_M_stalls 67 = .ok (.iaload, 1) := by decide +kernel
theorem d_M_stalls_68 : decode c_M_stalls 68 = .ok (.aload_n 0, 1) := by decide +kernel
theorem d_M_stalls_69 : decode c_M_stalls 69 = .ok (.getfield 7, 3) := by decide +kernel
theorem d_M_stalls_72 : decode c_M_stalls 72 = .ok (.iconst 4, 1) := by decide +kernel
theorem d_M_stalls_73 : decode c_M_stalls 73 = .ok (.aload_n 0, 1) := by decide +kernel
theorem d_M_stalls_74 : decode c_M_stalls 74 = .ok (.getfield 65, 3) := by decide +kernel
theorem d_M_stalls_77 : decode c_M_stalls 77 = .ok (.iload_n 1, 1) := by decide +kernel
theorem d_M_stalls_78 : decode c_M_stalls 78 = .ok (.iaload, 1) := by decide +kernel
theorem d_M_stalls_79 : decode c_M_stalls 79 = .ok (.imul, 1) := by decide +kernel
theorem d_M_stalls_80 : decode c_M_stalls 80 = .ok (.aload_n 0, 1) := by decide +kernel
theorem d_M_stalls_81 : decode c_M_stalls 81 = .ok (.getfield 59, 3) := by decide +kernel
theorem d_M_stalls_84 : decode c_M_stalls 84 = .ok (.iload_n 1, 1) := by decide +kernel
theorem d_M_stalls_85 : decode c_M_stalls 85 = .ok (.iaload, 1) := by decide +kernel
theorem d_M_stalls_86 : decode c_M_stalls 86 = .ok (.iadd, 1) := by decide +kernel
theorem d_M_stalls_87 : decode c_M_stalls 87 = .ok (.iaload, 1) := by decide +kernel
theorem d_M_stalls_88 : decode c_M_stalls 88 = .ok (.invokestatic 101, 3) := by decide +kernel
theorem d_M_stalls_91 : decode c_M_stalls 91 = .ok (.bipush 15, 2) := by decide +kernel
theorem d_M_stalls_93 : decode c_M_stalls 93 = .ok (.if_icmp .ne 7, 3) := by decide +kernel
theorem d_M_stalls_96 : decode c_M_stalls 96 = .ok (.iconst 1, 1) := by decide +kernel
theorem d_M_stalls_97 : decode c_M_stalls 97 = .ok (.goto 4, 3) := by decide +kernel
theorem d_M_stalls_100 : decode c_M_stalls 100 = .ok (.iconst 0, 1) := by decide +kernel
theorem d_M_stalls_101 : decode c_M_stalls 101 = .ok (.ireturn, 1) := by decide +kernel
theorem d_M_move_0 : decode c_M_move 0 = .ok (.aload_n 0, 1) := by decide +kernel
theorem d_M_move_1 : decode c_M_move 1 = .ok (.iload_n 1, 1) := by decide +kernel
theorem d_M_move_2 : decode c_M_move 2 = .ok (.invokevirtual 105, 3) := by decide +kernel
theorem d_M_move_5 : decode c_M_move 5 = .ok (.ifCond .eq 5, 3) := by decide +kernel
theorem d_M_move_8 : decode c_M_move 8 = .ok (.iconst 0, 1) := by decide +kernel
theorem d_M_move_9 : decode c_M_move 9 = .ok (.ireturn, 1) := by decide +kernel
theorem d_M_move_10 : decode c_M_move 10 = .ok (.aload_n 0, 1) := by decide +kernel
theorem d_M_move_11 : decode c_M_move 11 = .ok (.iload_n 1, 1) := by decide +kernel
theorem d_M_move_12 : decode c_M_move 12 = .ok (.invokevirtual 108, 3) := by decide +kernel
theorem d_M_move_15 : decode c_M_move 15 = .ok (.ifCond .eq 5, 3) := by decide +kernel
theorem d_M_move_18 : decode c_M_move 18 = .ok (.iconst 1, 1) := by decide +kernel
theorem d_M_move_19 : decode c_M_move 19 = .ok (.ireturn, 1) := by decide +kernel
theorem d_M_move_20 : decode c_M_move 20 = .ok (.aload_n 0, 1) := by decide +kernel
theorem d_M_move_21 : decode c_M_move 21 = .ok (.getfield 56, 3) := by decide +kernel
theorem d_M_move_24 : decode c_M_move 24 = .ok (.iload_n 1, 1) := by decide +kernel
theorem d_M_move_25 : decode c_M_move 25 = .ok (.iaload, 1) := by decide +kernel
theorem d_M_move_26 : decode c_M_move 26 = .ok (.istore_n 2, 1) := by decide +kernel
theorem d_M_move_27 : decode c_M_move 27 = .ok (.aload_n 0, 1) := by decide +kernel
theorem d_M_move_28 : decode c_M_move 28 = .ok (.getfield 59, 3) := by decide +kernel
theorem d_M_move_31 : decode c_M_move 31 = .ok (.iload_n 1, 1) := by decide +kernel
theorem d_M_move_32 : decode c_M_move 32 = .ok (.iaload, 1) := by decide +kernel
theorem d_M_move_33 : decode c_M_move 33 = .ok (.istore_n 3, 1) := by decide +kernel
theorem d_M_move_34 : decode c_M_move 34 = .ok (.aload_n 0, 1) := by decide +kernel
theorem d_M_move_35 : decode c_M_move 35 = .ok (.getfield 65, 3) := by decide +kernel
theorem d_M_move_38 : decode c_M_move 38 = .ok (.iload_n 1, 1) := by decide +kernel
theorem d_M_move_39 : decode c_M_move 39 = .ok (.iaload, 1) := by decide +kernel
theorem d_M_move_40 : decode c_M_move 40 = .ok (.istore 4, 2) := by decide +kernel
theorem d_M_move_42 : decode c_M_move 42 = .ok (.aload_n 0, 1) := by decide +kernel
theorem d_M_move_43 : decode c_M_move 43 = .ok (.getfield 68, 3) := by decide +kernel
theorem d_M_move_46 : decode c_M_move 46 = .ok (.iload_n 1, 1) := by decide +kernel
theorem d_M_move_47 : decode c_M_move 47 = .ok (.iaload, 1) := by decide +kernel
theorem d_M_move_48 : decode c_M_move 48 = .ok (.istore 5, 2) := by decide +kernel
theorem d_M_move_50 : decode c_M_move 50 = .ok (.aload_n 0, 1) := by decide +kernel
theorem d_M_move_51 : decode c_M_move 51 = .ok (.getfield 71, 3) := by decide +kernel
theorem d_M_move_54 : decode c_M_move 54 = .ok (.iload_n 1, 1) := by decide +kernel
theorem d_M_move_55 : decode c_M_move 55 = .ok (.iaload, 1) := by decide +kernel
theorem d_M_move_56 : decode c_M_move 56 = .ok (.istore 6, 2) := by decide +kernel
theorem d_M_move_58 : decode c_M_move 58 = .ok (.aload_n 0, 1) := by decide +kernel
theorem d_M_move_59 : decode c_M_move 59 = .ok (.getfield 74, 3) := by decide +kernel
theorem d_M_move_62 : decode c_M_move 62 = .ok (.iload_n 1, 1) := by decide +kernel
theorem d_M_move_63 : decode c_M_move 63 = .ok (.iaload, 1) := by decide +kernel
theorem d_M_move_64 : decode c_M_move 64 = .ok (.istore 7, 2) := by decide +kernel
theorem d_M_move_66 : decode c_M_move 66 = .ok (.aload_n 0, 1) := by decide +kernel
theorem d_M_move_67 : decode c_M_move 67 = .ok (.iload_n 1, 1) := by decide +kernel
theorem d_M_move_68 : decode c_M_move 68 = .ok (.invokevirtual 111, 3) := by decide +kernel
theorem d_M_move_71 : decode c_M_move 71 = .ok (.iload 4, 2) := by decide +kernel
theorem d_M_move_73 : decode c_M_move 73 = .ok (.iconst 4, 1) := by decide +kernel
theorem d_M_move_74 : decode c_M_move 74 = .ok (.if_icmp .ge 20, 3) := by decide +kernel
theorem d_M_move_77 : decode c_M_move 77 = .ok (.aload_n 0, 1) := by decide +kernel
theorem d_M_move_78 : decode c_M_move 78 = .ok (.iload_n 2, 1) := by decide +kernel
theorem d_M_move_79 : decode c_M_move 79 = .ok (.iload_n 3, 1) := by decide +kernel
theorem d_M_move_80 : decode c_M_move 80 = .ok (.iload 4, 2) := by decide +kernel
theorem d_M_move_82 : decode c_M_move 82 = .ok (.iload 5, 2) := by decide +kernel
theorem d_M_move_84 : decode c_M_move 84 = .ok (.iload 6, 2) := by decide +kernel
theorem d_M_move_86 : decode c_M_move 86 = .ok (.iload 7, 2) := by decide +kernel
theorem d_M_move_88 : decode c_M_move 88 = .ok (.invokevirtual 115, 3) := by decide +kernel
theorem d_M_move_91 : decode c_M_move 91 = .ok (.goto 78, 3) := by decide +kernel
theorem d_M_move_94 : decode c_M_move 94 = .ok (.iload_n 2, 1) := by decide +kernel
theorem d_M_move_95 : decode c_M_move 95 = .ok (.ifCond .ne 13, 3) := by decide +kernel
theorem d_M_move_98 : decode c_M_move 98 = .ok (.aload_n 0, 1) := by decide +kernel
theorem d_M_move_99 : decode c_M_move 99 = .ok (.iload_n 3, 1) := by decide +kernel
theorem d_M_move_100 : decode c_M_move 100 = .ok (.iload 5, 2) := by decide +kernel
theorem d_M_move_102 : decode c_M_move 102 = .ok (.invokevirtual 119, 3) := by decide +kernel
theorem d_M_move_105 : decode c_M_move 105 = .ok (.goto 64, 3) := by decide +kernel
theorem d_M_move_108 : decode c_M_move 108 = .ok (.iload_n 2, 1) := by decide +kernel
theorem d_M_move_109 : decode c_M_move 109 = .ok (.iconst 1, 1) := by decide +kernel
theorem d_M_move_110 : decode c_M_move 110 = .ok (.if_icmp .ne 13, 3) := by decide +kernel
theorem d_M_move_113 : decode c_M_move 113 = .ok (.aload_n 0, 1) := by decide +kernel
theorem d_M_move_114 : decode c_M_move 114 = .ok (.iload_n 3, 1) := by decide +kernel
theorem d_M_move_115 : decode c_M_move 115 = .ok (.iload 5, 2) := by decide +kernel
theorem d_M_move_117 : decode c_M_move 117 = .ok (.invokevirtual 123, 3) := by decide +kernel
theorem d_M_move_120 : decode c_M_move 120 = .ok (.goto 49, 3) := by decide +kernel
theorem d_M_move_123 : decode c_M_move 123 = .ok (.iload_n 2, 1) := by decide +kernel
theorem d_M_move_124 : decode c_M_move 124 = .ok (.iconst 5, 1) := by decide +kernel
theorem d_M_move_125 : decode c_M_move 125 = .ok (.if_icmp .ge 16, 3) := by decide +kernel
theorem d_M_move_128 : decode c_M_move 128 = .ok (.aload_n 0, 1) := by decide +kernel
theorem d_M_move_129 : decode c_M_move 129 = .ok (.iload_n 2, 1) := by decide +kernel
theorem d_M_move_130 : decode c_M_move 130 = .ok (.iload_n 3, 1) := by decide +kernel
theorem d_M_move_131 : decode c_M_move 131 = .ok (.iload 5, 2) := by decide +kernel
theorem d_M_move_133 : decode c_M_move 133 = .ok (.iload 7, 2) := by decide +kernel
theorem d_M_move_135 : decode c_M_move 135 = .ok (.invokevirtual 126, 3) := by decide +kernel
theorem d_M_move_138 : decode c_M_move 138 = .ok (.goto 31, 3) := by decide +kernel
theorem d_M_move_141 : decode c_M_move 141 = .ok (.aload_n 0, 1) := by decide +kernel
theorem d_M_move_142 : decode c_M_move 142 = .ok (.getfield 53, 3) := by decide +kernel
theorem d_M_move_145 : decode c_M_move 145 = .ok (.iload_n 3, 1) := by decide +kernel
theorem d_M_move_146 : decode c_M_move 146 = .ok (.iload 7, 2) := by decide +kernel
theorem d_M_move_148 : decode c_M_move 148 = .ok (.iastore, 1) := by decide +kernel
theorem d_M_move_149 : decode c_M_move 149 = .ok (.aload_n 0, 1) := by decide +kernel
theorem d_M_move_150 : decode c_M_move 150 = .ok (.getfield 44, 3) := by decide +kernel
theorem d_M_move_153 : decode c_M_move 153 = .ok (.iload_n 3, 1) := by decide +kernel
theorem d_M_move_154 : decode c_M_move 154 = .ok (.aload_n 0, 1) := by decide +kernel
theorem d_M_move_155 : decode c_M_move 155 = .ok (.getfield 50, 3) := by decide +kernel
theorem d_M_move_158 : decode c_M_move 158 = .ok (.iload_n 3, 1) := by decide +kernel
theorem d_M_move_159 : decode c_M_move 159 = .ok (.iaload, 1) := by decide +kernel
theorem d_M_move_160 : decode c_M_move 160 = .ok (.ifCond .ne 7, 3) := by decide +kernel
theorem d_M_move_163 : decode c_M_move 163 = .ok (.iconst 0, 1) := by decide +kernel
theorem d_M_move_164 : decode c_M_move 164 = .ok (.goto 4, 3) := by decide +kernel
theorem d_M_move_167 : decode c_M_move 167 = .ok (.iconst 1, 1) := by decide +kernel
theorem d_M_move_168 : decode c_M_move 168 = .ok (.iastore, 1) := by decide +kernel
theorem d_M_move_169 : decode c_M_move 169 = .ok (.iconst 2, 1) := by decide +kernel
theorem d_M_move_170 : decode c_M_move 170 = .ok (.ireturn, 1) := by decide +kernel
theorem d_M_toRead_0 : decode c_M_toRead 0 = .ok (.aload_n 0, 1) := by decide +kernel
theorem d_M_toRead_1 : decode c_M_toRead 1 = .ok (.getfield 44, 3) := by decide +kernel
theorem d_M_toRead_4 : decode c_M_toRead 4 = .ok (.iload_n 1, 1) := by decide +kernel
theorem d_M_toRead_5 : decode c_M_toRead 5 = .ok (.iaload, 1) := by decide +kernel
theorem d_M_toRead_6 : decode c_M_toRead 6 = .ok (.ifCond .ne 37, 3) := by decide +kernel
theorem d_M_toRead_9 : decode c_M_toRead 9 = .ok (.aload_n 0, 1) := by decide +kernel
theorem d_M_toRead_10 : decode c_M_toRead 10 = .ok (.bipush 10, 2) := by decide +kernel
theorem d_M_toRead_12 : decode c_M_toRead 12 = .ok (.iload_n 1, 1) := by decide +kernel
theorem d_M_toRead_13 : decode c_M_toRead 13 = .ok (.iconst 4, 1) := by decide +kernel
theorem d_M_toRead_14 : decode c_M_toRead 14 = .ok (.iload_n 2, 1) := by decide +kernel
theorem d_M_toRead_15 : decode c_M_toRead 15 = .ok (.iload_n 2, 1) := by decide +kernel
theorem d_M_toRead_16 : decode c_M_toRead 16 = .ok (.iconst 0, 1) := by decide +kernel
theorem d_M_toRead_17 : decode c_M_toRead 17 = .ok (.aload_n 0, 1) := by decide +kernel
theorem d_M_toRead_18 : decode c_M_toRead 18 = .ok (.getfield 53, 3) := by decide +kernel
theorem d_M_toRead_21 : decode c_M_toRead 21 = .ok (.iload_n 1, 1) := by decide +kernel
theorem d_M_toRead_22 : decode c_M_toRead 22 = .ok (.iaload, 1) := by decide +kernel
theorem d_M_toRead_23 : decode c_M_toRead 23 = .ok (.invokevirtual 77, 3) := by decide +kernel
theorem d_M_toRead_26 : decode c_M_toRead 26 = .ok (.aload_n 0, 1) := by decide +kernel
theorem d_M_toRead_27 : decode c_M_toRead 27 = .ok (.getfield 47, 3) := by decide +kernel
theorem d_M_toRead_30 : decode c_M_toRead 30 = .ok (.iload_n 1, 1) := by decide +kernel
theorem d_M_toRead_31 : decode c_M_toRead 31 = .ok (.iload_n 2, 1) := by decide +kernel
theorem d_M_toRead_32 : decode c_M_toRead 32 = .ok (.iastore, 1) := by decide +kernel
theorem d_M_toRead_33 : decode c_M_toRead 33 = .ok (.aload_n 0, 1) := by decide +kernel
theorem d_M_toRead_34 : decode c_M_toRead 34 = .ok (.getfield 44, 3) := by decide +kernel
theorem d_M_toRead_37 : decode c_M_toRead 37 = .ok (.iload_n 1, 1) := by decide +kernel
theorem d_M_toRead_38 : decode c_M_toRead 38 = .ok (.iconst 2, 1) := by decide +kernel
theorem d_M_toRead_39 : decode c_M_toRead 39 = .ok (.iastore, 1) := by decide +kernel
theorem d_M_toRead_40 : decode c_M_toRead 40 = .ok (.goto 89, 3) := by decide +kernel
theorem d_M_toRead_43 : decode c_M_toRead 43 = .ok (.aload_n 0, 1) := by decide +kernel
theorem d_M_toRead_44 : decode c_M_toRead 44 = .ok (.getfield 44, 3) := by decide +kernel
theorem d_M_toRead_47 : decode c_M_toRead 47 = .ok (.iload_n 1, 1) := by decide +kernel
theorem d_M_toRead_48 : decode c_M_toRead 48 = .ok (.iaload, 1) := by decide +kernel
theorem d_M_toRead_49 : decode c_M_toRead 49 = .ok (.iconst 1, 1) := by decide +kernel
theorem d_M_toRead_50 : decode c_M_toRead 50 = .ok (.if_icmp .ne 39, 3) := by decide +kernel
theorem d_M_toRead_53 : decode c_M_toRead 53 = .ok (.aload_n 0, 1) := by decide +kernel
theorem d_M_toRead_54 : decode c_M_toRead 54 = .ok (.bipush 9, 2) := by decide +kernel
theorem d_M_toRead_56 : decode c_M_toRead 56 = .ok (.iload_n 1, 1) := by decide +kernel
theorem d_M_toRead_57 : decode c_M_toRead 57 = .ok (.iconst 4, 1) := by decide +kernel
theorem d_M_toRead_58 : decode c_M_toRead 58 = .ok (.iload_n 2, 1) := by decide +kernel
theorem d_M_toRead_59 : decode c_M_toRead 59 = .ok (.iload_n 2, 1) := by decide +kernel
theorem d_M_toRead_60 : decode c_M_toRead 60 = .ok (.iconst 0, 1) := by decide +kernel
theorem d_M_toRead_61 : decode c_M_toRead 61 = .ok (.aload_n 0, 1) := by decide +kernel
theorem d_M_toRead_62 : decode c_M_toRead 62 = .ok (.getfield 53, 3) := by decide +kernel
theorem d_M_toRead_65 : decode c_M_toRead 65 = .ok (.iload_n 1, 1) := by decide +kernel
theorem d_M_toRead_66 : decode c_M_toRead 66 = .ok (.iaload, 1) := by decide +kernel
theorem d_M_toRead_67 : decode c_M_toRead 67 = .ok (.invokevirtual 77, 3) := by decide +kernel
theorem d_M_toRead_70 : decode c_M_toRead 70 = .ok (.aload_n 0, 1) := by decide +kernel
theorem d_M_toRead_71 : decode c_M_toRead 71 = .ok (.getfield 50, 3) := by decide +kernel
theorem d_M_toRead_74 : decode c_M_toRead 74 = .ok (.iload_n 1, 1) := by decide +kernel
theorem d_M_toRead_75 : decode c_M_toRead 75 = .ok (.aload_n 0, 1) := by decide +kernel
theorem d_M_toRead_76 : decode c_M_toRead 76 = .ok (.getfield 50, 3) := by decide +kernel
theorem d_M_toRead_79 : decode c_M_toRead 79 = .ok (.iload_n 1, 1) := by decide +kernel
theorem d_M_toRead_80 : decode c_M_toRead 80 = .ok (.iaload, 1) := by decide +kernel
theorem d_M_toRead_81 : decode c_M_toRead 81 = .ok (.iconst 1, 1) := by decide +kernel
theorem d_M_toRead_82 : decode c_M_toRead 82 = .ok (.iload_n 2, 1) := by decide +kernel
theorem d_M_toRead_83 : decode c_M_toRead 83 = .ok (.ishl, 1) := by decide +kernel
theorem d_M_toRead_84 : decode c_M_toRead 84 = .ok (.ior, 1) := by decide +kernel
theorem d_M_toRead_85 : decode c_M_toRead 85 = .ok (.iastore, 1) := by decide +kernel
theorem d_M_toRead_86 : decode c_M_toRead 86 = .ok (.goto 43, 3) := by decide +kernel
theorem d_M_toRead_89 : decode c_M_toRead 89 = .ok (.aload_n 0, 1) := by decide +kernel
theorem d_M_toRead_90 : decode c_M_toRead 90 = .ok (.iconst 5, 1) := by decide +kernel
theorem d_M_toRead_91 : decode c_M_toRead 91 = .ok (.iload_n 1, 1) := by decide +kernel
theorem d_M_toRead_92 : decode c_M_toRead 92 = .ok (.iconst 4, 1) := by decide +kernel
theorem d_M_toRead_93 : decode c_M_toRead 93 = .ok (.aload_n 0, 1) := by decide +kernel
theorem d_M_toRead_94 : decode c_M_toRead 94 = .ok (.getfield 47, 3) := by decide +kernel
theorem d_M_toRead_97 : decode c_M_toRead 97 = .ok (.iload_n 1, 1) := by decide +kernel
theorem d_M_toRead_98 : decode c_M_toRead 98 = .ok (.iaload, 1) := by decide +kernel
theorem d_M_toRead_99 : decode c_M_toRead 99 = .ok (.iload_n 2, 1) := by decide +kernel
theorem d_M_toRead_100 : decode c_M_toRead 100 = .ok (.iconst 0, 1) := by decide +kernel
theorem d_M_toRead_101 : decode c_M_toRead 101 = .ok (.invokevirtual 130, 3) := by decide +kernel
theorem d_M_toRead_104 : decode c_M_toRead 104 = .ok (.aload_n 0, 1) := by decide +kernel
theorem d_M_toRead_105 : decode c_M_toRead 105 = .ok (.getfield 50, 3) := by decide +kernel
theorem d_M_toRead_108 : decode c_M_toRead 108 = .ok (.iload_n 1, 1) := by decide +kernel
theorem d_M_toRead_109 : decode c_M_toRead 109 = .ok (.iconst 1, 1) := by decide +kernel
theorem d_M_toRead_110 : decode c_M_toRead 110 = .ok (.aload_n 0, 1) := by decide +kernel
theorem d_M_toRead_111 : decode c_M_toRead 111 = .ok (.getfield 47, 3) := by decide +kernel
theorem d_M_toRead_114 : decode c_M_toRead 114 = .ok (.iload_n 1, 1) := by decide +kernel
theorem d_M_toRead_115 : decode c_M_toRead 115 = .ok (.iaload, 1) := by decide +kernel
theorem d_M_toRead_116 : decode c_M_toRead 116 = .ok (.ishl, 1) := by decide +kernel
theorem d_M_toRead_117 : decode c_M_toRead 117 = .ok (.iconst 1, 1) := by decide +kernel
theorem d_M_toRead_118 : decode c_M_toRead 118 = .ok (.iload_n 2, 1) := by decide +kernel
theorem d_M_toRead_119 : decode c_M_toRead 119 = .ok (.ishl, 1) := by decide +kernel
theorem d_M_toRead_120 : decode c_M_toRead 120 = .ok (.ior, 1) := by decide +kernel
theorem d_M_toRead_121 : decode c_M_toRead 121 = .ok (.iastore, 1) := by decide +kernel
theorem d_M_toRead_122 : decode c_M_toRead 122 = .ok (.aload_n 0, 1) := by decide +kernel
theorem d_M_toRead_123 : decode c_M_toRead 123 = .ok (.getfield 44, 3) := by decide +kernel
theorem d_M_toRead_126 : decode c_M_toRead 126 = .ok (.iload_n 1, 1) := by decide +kernel
theorem d_M_toRead_127 : decode c_M_toRead 127 = .ok (.iconst 3, 1) := by decide +kernel
theorem d_M_toRead_128 : decode c_M_toRead 128 = .ok (.iastore, 1) := by decide +kernel
theorem d_M_toRead_129 : decode c_M_toRead 129 = .ok (.return_, 1) := by decide +kernel
theorem d_M_toWrite_0 : decode c_M_toWrite 0 = .ok (.aload_n 0, 1) := by decide +kernel
theorem d_M_toWrite_1 : decode c_M_toWrite 1 = .ok (.getfield 44, 3) := by decide +kernel
theorem d_M_toWrite_4 : decode c_M_toWrite 4 = .ok (.iload_n 1, 1) := by decide +kernel
theorem d_M_toWrite_5 : decode c_M_toWrite 5 = .ok (.iaload, 1) := by decide +kernel
theorem d_M_toWrite_6 : decode c_M_toWrite 6 = .ok (.iconst 2, 1) := by decide +kernel
theorem d_M_toWrite_7 : decode c_M_toWrite 7 = .ok (.if_icmp .ne 22, 3) := by decide +kernel
theorem d_M_toWrite_10 : decode c_M_toWrite 10 = .ok (.aload_n 0, 1) := by decide +kernel
theorem d_M_toWrite_11 : decode c_M_toWrite 11 = .ok (.bipush 6, 2) := by decide +kernel
theorem d_M_toWrite_13 : decode c_M_toWrite 13 = .ok (.iload_n 1, 1) := by decide +kernel
theorem d_M_toWrite_14 : decode c_M_toWrite 14 = .ok (.iconst 4, 1) := by decide +kernel
theorem d_M_toWrite_15 : decode c_M_toWrite 15 = .ok (.aload_n 0, 1) := by decide +kernel
theorem d_M_toWrite_16 : decode c_M_toWrite 16 = .ok (.getfield 47, 3) := by decide +kernel
theorem d_M_toWrite_19 : decode c_M_toWrite 19 = .ok (.iload_n 1, 1) := by decide +kernel
theorem d_M_toWrite_20 : decode c_M_toWrite 20 = .ok (.iaload, 1) := by decide +kernel
theorem d_M_toWrite_21 : decode c_M_toWrite 21 = .ok (.iload_n 2, 1) := by decide +kernel
theorem d_M_toWrite_22 : decode c_M_toWrite 22 = .ok (.iconst 0, 1) := by decide +kernel
theorem d_M_toWrite_23 : decode c_M_toWrite 23 = .ok (.invokevirtual 130, 3) := by decide +kernel
theorem d_M_toWrite_26 : decode c_M_toWrite 26 = .ok (.goto 116, 3) := by decide +kernel
theorem d_M_toWrite_29 : decode c_M_toWrite 29 = .ok (.iconst 0, 1) := by decide +kernel
theorem d_M_toWrite_30 : decode c_M_toWrite 30 = .ok (.istore_n 3, 1) := by decide +kernel
theorem d_M_toWrite_31 : decode c_M_toWrite 31 = .ok (.iconst 0, 1) := by decide +kernel
theorem d_M_toWrite_32 : decode c_M_toWrite 32 = .ok (.istore 4, 2) := by decide +kernel
theorem d_M_toWrite_34 : decode c_M_toWrite 34 = .ok (.iload 4, 2) := by decide +kernel
theorem d_M_toWrite_36 : decode c_M_toWrite 36 = .ok (.iconst 4, 1) := by decide +kernel
theorem d_M_toWrite_37 : decode c_M_toWrite 37 = .ok (.if_icmp .ge 33, 3) := by decide +kernel
theorem d_M_toWrite_40 : decode c_M_toWrite 40 = .ok (.iload 4, 2) := by decide +kernel
theorem d_M_toWrite_42 : decode c_M_toWrite 42 = .ok (.iload_n 2, 1) := by decide +kernel
theorem d_M_toWrite_43 : decode c_M_toWrite 43 = .ok (.if_icmp .eq 21, 3) := by decide +kernel
theorem d_M_toWrite_46 : decode c_M_toWrite 46 = .ok (.aload_n 0, 1) := by decide +kernel
theorem d_M_toWrite_47 : decode c_M_toWrite 47 = .ok (.getfield 50, 3) := by decide +kernel
theorem d_M_toWrite_50 : decode c_M_toWrite 50 = .ok (.iload_n 1, 1) := by decide +kernel
theorem d_M_toWrite_51 : decode c_M_toWrite 51 = .ok (.iaload, 1) := by decide +kernel
theorem d_M_toWrite_52 : decode c_M_toWrite 52 = .ok (.iload 4, 2) := by decide +kernel
theorem d_M_toWrite_54 : decode c_M_toWrite 54 = .ok (.ishr, 1) := by decide +kernel
theorem d_M_toWrite_55 : decode c_M_toWrite 55 = .ok (.iconst 1, 1) := by decide +kernel
theorem d_M_toWrite_56 : decode c_M_toWrite 56 = .ok (.iand, 1) := by decide +kernel
theorem d_M_toWrite_57 : decode c_M_toWrite 57 = .ok (.iconst 1, 1) := by decide +kernel
theorem d_M_toWrite_58 : decode c_M_toWrite 58 = .ok (.if_icmp .ne 6, 3) := by decide +kernel
theorem d_M_toWrite_61 : decode c_M_toWrite 61 = .ok (.iinc 3 1, 3) := by decide +kernel
theorem d_M_toWrite_64 : decode c_M_toWrite 64 = .ok (.iinc 4 1, 3) := by decide +kernel
theorem d_M_toWrite_67 : decode c_M_toWrite 67 = .ok (.goto (-33), 3) := by decide +kernel
theorem d_M_toWrite_70 : decode c_M_toWrite 70 = .ok (.aload_n 0, 1) := by decide +kernel
theorem d_M_toWrite_71 : decode c_M_toWrite 71 = .ok (.bipush 9, 2) := by decide +kernel
theorem d_M_toWrite_73 : decode c_M_toWrite 73 = .ok (.iload_n 1, 1) := by decide +kernel
theorem d_M_toWrite_74 : decode c_M_toWrite 74 = .ok (.iconst 4, 1) := by decide +kernel
theorem d_M_toWrite_75 : decode c_M_toWrite 75 = .ok (.iload_n 2, 1) := by decide +kernel
theorem d_M_toWrite_76 : decode c_M_toWrite 76 = .ok (.iload_n 2, 1) := by decide +kernel
theorem d_M_toWrite_77 : decode c_M_toWrite 77 = .ok (.iload_n 3, 1) := by decide +kernel
theorem d_M_toWrite_78 : decode c_M_toWrite 78 = .ok (.aload_n 0, 1) := by decide +kernel
theorem d_M_toWrite_79 : decode c_M_toWrite 79 = .ok (.getfield 53, 3) := by decide +kernel
theorem d_M_toWrite_82 : decode c_M_toWrite 82 = .ok (.iload_n 1, 1) := by decide +kernel
theorem d_M_toWrite_83 : decode c_M_toWrite 83 = .ok (.iaload, 1) := by decide +kernel
theorem d_M_toWrite_84 : decode c_M_toWrite 84 = .ok (.invokevirtual 77, 3) := by decide +kernel
theorem d_M_toWrite_87 : decode c_M_toWrite 87 = .ok (.iconst 0, 1) := by decide +kernel
theorem d_M_toWrite_88 : decode c_M_toWrite 88 = .ok (.istore 4, 2) := by decide +kernel
theorem d_M_toWrite_90 : decode c_M_toWrite 90 = .ok (.iload 4, 2) := by decide +kernel
theorem d_M_toWrite_92 : decode c_M_toWrite 92 = .ok (.iconst 4, 1) := by decide +kernel
theorem d_M_toWrite_93 : decode c_M_toWrite 93 = .ok (.if_icmp .ge 42, 3) := by decide +kernel
theorem d_M_toWrite_96 : decode c_M_toWrite 96 = .ok (.iload 4, 2) := by decide +kernel
theorem d_M_toWrite_98 : decode c_M_toWrite 98 = .ok (.iload_n 2, 1) := by decide +kernel
theorem d_M_toWrite_99 : decode c_M_toWrite 99 = .ok (.if_icmp .eq 30, 3) := by decide +kernel
theorem d_M_toWrite_102 : decode c_M_toWrite 102 = .ok (.aload_n 0, 1) := by decide +kernel
theorem d_M_toWrite_103 : decode c_M_toWrite 103 = .ok (.getfield 50, 3) := by decide +kernel
theorem d_M_toWrite_106 : decode c_M_toWrite 106 = .ok (.iload_n 1, 1) := by decide +kernel
theorem d_M_toWrite_107 : decode c_M_toWrite 107 = .ok (.iaload, 1) := by decide +kernel
theorem d_M_toWrite_108 : decode c_M_toWrite 108 = .ok (.iload 4, 2) := by decide +kernel
theorem d_M_toWrite_110 : decode c_M_toWrite 110 = .ok (.ishr, 1) := by decide +kernel
theorem d_M_toWrite_111 : decode c_M_toWrite 111 = .ok (.iconst 1, 1) := by decide +kernel
theorem d_M_toWrite_112 : decode c_M_toWrite 112 = .ok (.iand, 1) := by decide +kernel
theorem d_M_toWrite_113 : decode c_M_toWrite 113 = .ok (.iconst 1, 1) := by decide +kernel
theorem d_M_toWrite_114 : decode c_M_toWrite 114 = .ok (.if_icmp .ne 15, 3) := by decide +kernel
theorem d_M_toWrite_117 : decode c_M_toWrite 117 = .ok (.aload_n 0, 1) := by decide +kernel
theorem d_M_toWrite_118 : decode c_M_toWrite 118 = .ok (.bipush 7, 2) := by decide +kernel
theorem d_M_toWrite_120 : decode c_M_toWrite 120 = .ok (.iload_n 1, 1) := by decide +kernel
theorem d_M_toWrite_121 : decode c_M_toWrite 121 = .ok (.iconst 4, 1) := by decide +kernel
theorem d_M_toWrite_122 : decode c_M_toWrite 122 = .ok (.iload 4, 2) := by decide +kernel
theorem d_M_toWrite_124 : decode c_M_toWrite 124 = .ok (.iload_n 2, 1) := by decide +kernel
theorem d_M_toWrite_125 : decode c_M_toWrite 125 = .ok (.iconst 0, 1) := by decide +kernel
theorem d_M_toWrite_126 : decode c_M_toWrite 126 = .ok (.invokevirtual 130, 3) := by decide +kernel
theorem d_M_toWrite_129 : decode c_M_toWrite 129 = .ok (.iinc 4 1, 3) := by decide +kernel
theorem d_M_toWrite_132 : decode c_M_toWrite 132 = .ok (.goto (-42), 3) := by decide +kernel
theorem d_M_toWrite_135 : decode c_M_toWrite 135 = .ok (.aload_n 0, 1) := by decide +kernel
theorem d_M_toWrite_136 : decode c_M_toWrite 136 = .ok (.getfield 50, 3) := by decide +kernel
theorem d_M_toWrite_139 : decode c_M_toWrite 139 = .ok (.iload_n 1, 1) := by decide +kernel
theorem d_M_toWrite_140 : decode c_M_toWrite 140 = .ok (.iconst 0, 1) := by decide +kernel
theorem d_M_toWrite_141 : decode c_M_toWrite 141 = .ok (.iastore, 1) := by decide +kernel
theorem d_M_toWrite_142 : decode c_M_toWrite 142 = .ok (.aload_n 0, 1) := by decide +kernel
theorem d_M_toWrite_143 : decode c_M_toWrite 143 = .ok (.getfield 47, 3) := by decide +kernel
theorem d_M_toWrite_146 : decode c_M_toWrite 146 = .ok (.iload_n 1, 1) := by decide +kernel
theorem d_M_toWrite_147 : decode c_M_toWrite 147 = .ok (.iload_n 2, 1) := by decide +kernel
theorem d_M_toWrite_148 : decode c_M_toWrite 148 = .ok (.iastore, 1) := by decide +kernel
theorem d_M_toWrite_149 : decode c_M_toWrite 149 = .ok (.aload_n 0, 1) := by decide +kernel
theorem d_M_toWrite_150 : decode c_M_toWrite 150 = .ok (.getfield 44, 3) := by decide +kernel
theorem d_M_toWrite_153 : decode c_M_toWrite 153 = .ok (.iload_n 1, 1) := by decide +kernel
theorem d_M_toWrite_154 : decode c_M_toWrite 154 = .ok (.iconst 2, 1) := by decide +kernel
theorem d_M_toWrite_155 : decode c_M_toWrite 155 = .ok (.iastore, 1) := by decide +kernel
theorem d_M_toWrite_156 : decode c_M_toWrite 156 = .ok (.return_, 1) := by decide +kernel
theorem d_M_toLeave_0 : decode c_M_toLeave 0 = .ok (.aload_n 0, 1) := by decide +kernel
theorem d_M_toLeave_1 : decode c_M_toLeave 1 = .ok (.getfield 44, 3) := by decide +kernel
theorem d_M_toLeave_4 : decode c_M_toLeave 4 = .ok (.iload_n 2, 1) := by decide +kernel
theorem d_M_toLeave_5 : decode c_M_toLeave 5 = .ok (.iaload, 1) := by decide +kernel
theorem d_M_toLeave_6 : decode c_M_toLeave 6 = .ok (.iconst 2, 1) := by decide +kernel
theorem d_M_toLeave_7 : decode c_M_toLeave 7 = .ok (.if_icmp .ne 36, 3) := by decide +kernel
theorem d_M_toLeave_10 : decode c_M_toLeave 10 = .ok (.aload_n 0, 1) := by decide +kernel
theorem d_M_toLeave_11 : decode c_M_toLeave 11 = .ok (.getfield 47, 3) := by decide +kernel
theorem d_M_toLeave_14 : decode c_M_toLeave 14 = .ok (.iload_n 2, 1) := by decide +kernel
theorem d_M_toLeave_15 : decode c_M_toLeave 15 = .ok (.iaload, 1) := by decide +kernel
theorem d_M_toLeave_16 : decode c_M_toLeave 16 = .ok (.iload_n 3, 1) := by decide +kernel
theorem d_M_toLeave_17 : decode c_M_toLeave 17 = .ok (.if_icmp .ne 26, 3) := by decide +kernel
theorem d_M_toLeave_20 : decode c_M_toLeave 20 = .ok (.iload_n 1, 1) := by decide +kernel
theorem d_M_toLeave_21 : decode c_M_toLeave 21 = .ok (.iconst 4, 1) := by decide +kernel
theorem d_M_toLeave_22 : decode c_M_toLeave 22 = .ok (.if_icmp .ne 11, 3) := by decide +kernel
theorem d_M_toLeave_25 : decode c_M_toLeave 25 = .ok (.aload_n 0, 1) := by decide +kernel
theorem d_M_toLeave_26 : decode c_M_toLeave 26 = .ok (.getfield 53, 3) := by decide +kernel
theorem d_M_toLeave_29 : decode c_M_toLeave 29 = .ok (.iload_n 2, 1) := by decide +kernel
theorem d_M_toLeave_30 : decode c_M_toLeave 30 = .ok (.iload 4, 2) := by decide +kernel
theorem d_M_toLeave_32 : decode c_M_toLeave 32 = .ok (.iastore, 1) := by decide +kernel
theorem d_M_toLeave_33 : decode c_M_toLeave 33 = .ok (.aload_n 0, 1) := by decide +kernel
theorem d_M_toLeave_34 : decode c_M_toLeave 34 = .ok (.getfield 44, 3) := by decide +kernel
theorem d_M_toLeave_37 : decode c_M_toLeave 37 = .ok (.iload_n 2, 1) := by decide +kernel
theorem d_M_toLeave_38 : decode c_M_toLeave 38 = .ok (.iconst 0, 1) := by decide +kernel
theorem d_M_toLeave_39 : decode c_M_toLeave 39 = .ok (.iastore, 1) := by decide +kernel
theorem d_M_toLeave_40 : decode c_M_toLeave 40 = .ok (.goto 47, 3) := by decide +kernel
theorem d_M_toLeave_43 : decode c_M_toLeave 43 = .ok (.aload_n 0, 1) := by decide +kernel
theorem d_M_toLeave_44 : decode c_M_toLeave 44 = .ok (.getfield 50, 3) := by decide +kernel
theorem d_M_toLeave_47 : decode c_M_toLeave 47 = .ok (.iload_n 2, 1) := by decide +kernel
theorem d_M_toLeave_48 : decode c_M_toLeave 48 = .ok (.aload_n 0, 1) := by decide +kernel
theorem d_M_toLeave_49 : decode c_M_toLeave 49 = .ok (.getfield 50, 3) := by decide +kernel
theorem d_M_toLeave_52 : decode c_M_toLeave 52 = .ok (.iload_n 2, 1) := by decide +kernel
theorem d_M_toLeave_53 : decode c_M_toLeave 53 = .ok (.iaload, 1) := by decide +kernel
theorem d_M_toLeave_54 : decode c_M_toLeave 54 = .ok (.iconst 1, 1) := by decide +kernel
theorem d_M_toLeave_55 : decode c_M_toLeave 55 = .ok (.iload_n 3, 1) := by decide +kernel
theorem d_M_toLeave_56 : decode c_M_toLeave 56 = .ok (.ishl, 1) := by decide +kernel
theorem d_M_toLeave_57 : decode c_M_toLeave 57 = .ok (.iconst (-1), 1) := by decide +kernel
theorem d_M_toLeave_58 : decode c_M_toLeave 58 = .ok (.ixor, 1) := by decide +kernel
theorem d_M_toLeave_59 : decode c_M_toLeave 59 = .ok (.iand, 1) := by decide +kernel
theorem d_M_toLeave_60 : decode c_M_toLeave 60 = .ok (.iastore, 1) := by decide +kernel
theorem d_M_toLeave_61 : decode c_M_toLeave 61 = .ok (.aload_n 0, 1) := by decide +kernel
theorem d_M_toLeave_62 : decode c_M_toLeave 62 = .ok (.getfield 44, 3) := by decide +kernel
theorem d_M_toLeave_65 : decode c_M_toLeave 65 = .ok (.iload_n 2, 1) := by decide +kernel
theorem d_M_toLeave_66 : decode c_M_toLeave 66 = .ok (.iaload, 1) := by decide +kernel
theorem d_M_toLeave_67 : decode c_M_toLeave 67 = .ok (.iconst 1, 1) := by decide +kernel
theorem d_M_toLeave_68 : decode c_M_toLeave 68 = .ok (.if_icmp .ne 19, 3) := by decide +kernel
theorem d_M_toLeave_71 : decode c_M_toLeave 71 = .ok (.aload_n 0, 1) := by decide +kernel
theorem d_M_toLeave_72 : decode c_M_toLeave 72 = .ok (.getfield 50, 3) := by decide +kernel
theorem d_M_toLeave_75 : decode c_M_toLeave 75 = .ok (.iload_n 2, 1) := by decide +kernel
theorem d_M_toLeave_76 : decode c_M_toLeave 76 = .ok (.iaload, 1) := by decide +kernel
theorem d_M_toLeave_77 : decode c_M_toLeave 77 = .ok (.ifCond .ne 10, 3) := by decide +kernel
theorem d_M_toLeave_80 : decode c_M_toLeave 80 = .ok (.aload_n 0, 1) := by decide +kernel
theorem d_M_toLeave_81 : decode c_M_toLeave 81 = .ok (.getfield 44, 3) := by decide +kernel
theorem d_M_toLeave_84 : decode c_M_toLeave 84 = .ok (.iload_n 2, 1) := by decide +kernel
theorem d_M_toLeave_85 : decode c_M_toLeave 85 = .ok (.iconst 0, 1) := by decide +kernel
theorem d_M_toLeave_86 : decode c_M_toLeave 86 = .ok (.iastore, 1) := by decide +kernel
theorem d_M_toLeave_87 : decode c_M_toLeave 87 = .ok (.aload_n 0, 1) := by decide +kernel
theorem d_M_toLeave_88 : decode c_M_toLeave 88 = .ok (.bipush 8, 2) := by decide +kernel
theorem d_M_toLeave_90 : decode c_M_toLeave 90 = .ok (.iload_n 2, 1) := by decide +kernel
theorem d_M_toLeave_91 : decode c_M_toLeave 91 = .ok (.iconst 4, 1) := by decide +kernel
theorem d_M_toLeave_92 : decode c_M_toLeave 92 = .ok (.iload_n 3, 1) := by decide +kernel
theorem d_M_toLeave_93 : decode c_M_toLeave 93 = .ok (.iload_n 3, 1) := by decide +kernel
theorem d_M_toLeave_94 : decode c_M_toLeave 94 = .ok (.iconst 0, 1) := by decide +kernel
theorem d_M_toLeave_95 : decode c_M_toLeave 95 = .ok (.invokevirtual 130, 3) := by decide +kernel
theorem d_M_toLeave_98 : decode c_M_toLeave 98 = .ok (.return_, 1) := by decide +kernel
theorem d_M_toCore_0 : decode c_M_toCore 0 = .ok (.iconst 4, 1) := by decide +kernel
theorem d_M_toCore_1 : decode c_M_toCore 1 = .ok (.iload_n 3, 1) := by decide +kernel
theorem d_M_toCore_2 : decode c_M_toCore 2 = .ok (.imul, 1) := by decide +kernel
theorem d_M_toCore_3 : decode c_M_toCore 3 = .ok (.iload_n 2, 1) := by decide +kernel
theorem d_M_toCore_4 : decode c_M_toCore 4 = .ok (.iadd, 1) := by decide +kernel
theorem d_M_toCore_5 : decode c_M_toCore 5 = .ok (.istore 7, 2) := by decide +kernel
theorem d_M_toCore_7 : decode c_M_toCore 7 = .ok (.aload_n 0, 1) := by decide +kernel
theorem d_M_toCore_8 : decode c_M_toCore 8 = .ok (.getfield 7, 3) := by decide +kernel
theorem d_M_toCore_11 : decode c_M_toCore 11 = .ok (.iload 7, 2) := by decide +kernel
theorem d_M_toCore_13 : decode c_M_toCore 13 = .ok (.iaload, 1) := by decide +kernel
theorem d_M_toCore_14 : decode c_M_toCore 14 = .ok (.istore 8, 2) := by decide +kernel
theorem d_M_toCore_16 : decode c_M_toCore 16 = .ok (.iload_n 1, 1) := by decide +kernel
theorem d_M_toCore_17 : decode c_M_toCore 17 = .ok (.bipush 8, 2) := by decide +kernel
theorem d_M_toCore_19 : decode c_M_toCore 19 = .ok (.if_icmp .ge 163, 3) := by decide +kernel
theorem d_M_toCore_22 : decode c_M_toCore 22 = .ok (.aload_n 0, 1) := by decide +kernel
theorem d_M_toCore_23 : decode c_M_toCore 23 = .ok (.getfield 7, 3) := by decide +kernel
theorem d_M_toCore_26 : decode c_M_toCore 26 = .ok (.iload 7, 2) := by decide +kernel
theorem d_M_toCore_28 : decode c_M_toCore 28 = .ok (.iload_n 1, 1) := by decide +kernel
theorem d_M_toCore_29 : decode c_M_toCore 29 = .ok (.iload 8, 2) := by decide +kernel
theorem d_M_toCore_31 : decode c_M_toCore 31 = .ok (.invokestatic 101, 3) := by decide +kernel
theorem d_M_toCore_34 : decode c_M_toCore 34 = .ok (.iastore, 1) := by decide +kernel
theorem d_M_toCore_35 : decode c_M_toCore 35 = .ok (.iload 8, 2) := by decide +kernel
theorem d_M_toCore_37 : decode c_M_toCore 37 = .ok (.iconst 2, 1) := by decide +kernel
theorem d_M_toCore_38 : decode c_M_toCore 38 = .ok (.if_icmp .eq 23, 3) := by decide +kernel
theorem d_M_toCore_41 : decode c_M_toCore 41 = .ok (.iload 8, 2) := by decide +kernel
theorem d_M_toCore_43 : decode c_M_toCore 43 = .ok (.iconst 3, 1) := by decide +kernel
theorem d_M_toCore_44 : decode c_M_toCore 44 = .ok (.if_icmp .eq 17, 3) := by decide +kernel
theorem d_M_toCore_47 : decode c_M_toCore 47 = .ok (.iload 8, 2) := by decide +kernel
theorem d_M_toCore_49 : decode c_M_toCore 49 = .ok (.bipush 9, 2) := by decide +kernel
theorem d_M_toCore_51 : decode c_M_toCore 51 = .ok (.if_icmp .eq 10, 3) := by decide +kernel
theorem d_M_toCore_54 : decode c_M_toCore 54 = .ok (.iload 8, 2) := by decide +kernel
theorem d_M_toCore_56 : decode c_M_toCore 56 = .ok (.bipush 10, 2) := by decide +kernel
theorem d_M_toCore_58 : decode c_M_toCore 58 = .ok (.if_icmp .ne 7, 3) := by decide +kernel
theorem d_M_toCore_61 : decode c_M_toCore 61 = .ok (.iconst 1, 1) := by decide +kernel
theorem d_M_toCore_62 : decode c_M_toCore 62 = .ok (.goto 4, 3) := by decide +kernel
theorem d_M_toCore_65 : decode c_M_toCore 65 = .ok (.iconst 0, 1) := by decide +kernel
theorem d_M_toCore_66 : decode c_M_toCore 66 = .ok (.istore 9, 2) := by decide +kernel
theorem d_M_toCore_68 : decode c_M_toCore 68 = .ok (.iload 8, 2) := by decide +kernel
theorem d_M_toCore_70 : decode c_M_toCore 70 = .ok (.iconst 1, 1) := by decide +kernel
theorem d_M_toCore_71 : decode c_M_toCore 71 = .ok (.if_icmp .eq 17, 3) := by decide +kernel
theorem d_M_toCore_74 : decode c_M_toCore 74 = .ok (.iload 8, 2) := by decide +kernel
theorem d_M_toCore_76 : decode c_M_toCore 76 = .ok (.bipush 7, 2) := by decide +kernel
theorem d_M_toCore_78 : decode c_M_toCore 78 = .ok (.if_icmp .eq 10, 3) := by decide +kernel
theorem d_M_toCore_81 : decode c_M_toCore 81 = .ok (.iload 8, 2) := by decide +kernel
theorem d_M_toCore_83 : decode c_M_toCore 83 = .ok (.bipush 11, 2) := by decide +kernel
theorem d_M_toCore_85 : decode c_M_toCore 85 = .ok (.if_icmp .ne 7, 3) := by decide +kernel
theorem d_M_toCore_88 : decode c_M_toCore 88 = .ok (.iconst 1, 1) := by decide +kernel
theorem d_M_toCore_89 : decode c_M_toCore 89 = .ok (.goto 4, 3) := by decide +kernel
theorem d_M_toCore_92 : decode c_M_toCore 92 = .ok (.iconst 0, 1) := by decide +kernel
theorem d_M_toCore_93 : decode c_M_toCore 93 = .ok (.istore 10, 2) := by decide +kernel
theorem d_M_toCore_95 : decode c_M_toCore 95 = .ok (.iload_n 1, 1) := by decide +kernel
theorem d_M_toCore_96 : decode c_M_toCore 96 = .ok (.bipush 7, 2) := by decide +kernel
theorem d_M_toCore_98 : decode c_M_toCore 98 = .ok (.if_icmp .ge 28, 3) := by decide +kernel
theorem d_M_toCore_101 : decode c_M_toCore 101 = .ok (.iload 9, 2) := by decide +kernel
theorem d_M_toCore_103 : decode c_M_toCore 103 = .ok (.ifCond .eq 23, 3) := by decide +kernel
theorem d_M_toCore_106 : decode c_M_toCore 106 = .ok (.aload_n 0, 1) := by decide +kernel
theorem d_M_toCore_107 : decode c_M_toCore 107 = .ok (.bipush 9, 2) := by decide +kernel
theorem d_M_toCore_109 : decode c_M_toCore 109 = .ok (.iload_n 2, 1) := by decide +kernel
theorem d_M_toCore_110 : decode c_M_toCore 110 = .ok (.iload_n 3, 1) := by decide +kernel
theorem d_M_toCore_111 : decode c_M_toCore 111 = .ok (.iload 4, 2) := by decide +kernel
theorem d_M_toCore_113 : decode c_M_toCore 113 = .ok (.iload 4, 2) := by decide +kernel
theorem d_M_toCore_115 : decode c_M_toCore 115 = .ok (.iconst 0, 1) := by decide +kernel
theorem d_M_toCore_116 : decode c_M_toCore 116 = .ok (.aload_n 0, 1) := by decide +kernel
theorem d_M_toCore_117 : decode c_M_toCore 117 = .ok (.getfield 13, 3) := by decide +kernel
theorem d_M_toCore_120 : decode c_M_toCore 120 = .ok (.iload 7, 2) := by decide +kernel
theorem d_M_toCore_122 : decode c_M_toCore 122 = .ok (.iaload, 1) := by decide +kernel
theorem d_M_toCore_123 : decode c_M_toCore 123 = .ok (.invokevirtual 77, 3) := by decide +kernel
theorem d_M_toCore_126 : decode c_M_toCore 126 = .ok (.iload_n 1, 1) := by decide +kernel
theorem d_M_toCore_127 : decode c_M_toCore 127 = .ok (.iconst 5, 1) := by decide +kernel
theorem d_M_toCore_128 : decode c_M_toCore 128 = .ok (.if_icmp .ne 27, 3) := by decide +kernel
theorem d_M_toCore_131 : decode c_M_toCore 131 = .ok (.iload 9, 2) := by decide +kernel
theorem d_M_toCore_133 : decode c_M_toCore 133 = .ok (.ifCond .eq 22, 3) := by decide +kernel
theorem d_M_toCore_136 : decode c_M_toCore 136 = .ok (.aload_n 0, 1) := by decide +kernel
theorem d_M_toCore_137 : decode c_M_toCore 137 = .ok (.bipush 9, 2) := by decide +kernel
theorem d_M_toCore_139 : decode c_M_toCore 139 = .ok (.iload_n 2, 1) := by decide +kernel
theorem d_M_toCore_140 : decode c_M_toCore 140 = .ok (.iload_n 3, 1) := by decide +kernel
theorem d_M_toCore_141 : decode c_M_toCore 141 = .ok (.iconst 4, 1) := by decide +kernel
theorem d_M_toCore_142 : decode c_M_toCore 142 = .ok (.iload 4, 2) := by decide +kernel
theorem d_M_toCore_144 : decode c_M_toCore 144 = .ok (.iconst 0, 1) := by decide +kernel
theorem d_M_toCore_145 : decode c_M_toCore 145 = .ok (.aload_n 0, 1) := by decide +kernel
theorem d_M_toCore_146 : decode c_M_toCore 146 = .ok (.getfield 13, 3) := by decide +kernel
theorem d_M_toCore_149 : decode c_M_toCore 149 = .ok (.iload 7, 2) := by decide +kernel
theorem d_M_toCore_151 : decode c_M_toCore 151 = .ok (.iaload, 1) := by decide +kernel
theorem d_M_toCore_152 : decode c_M_toCore 152 = .ok (.invokevirtual 77, 3) := by decide +kernel
theorem d_M_toCore_155 : decode c_M_toCore 155 = .ok (.iload_n 1, 1) := by decide +kernel
theorem d_M_toCore_156 : decode c_M_toCore 156 = .ok (.bipush 7, 2) := by decide +kernel
theorem d_M_toCore_158 : decode c_M_toCore 158 = .ok (.if_icmp .ne 21, 3) := by decide +kernel
theorem d_M_toCore_161 : decode c_M_toCore 161 = .ok (.iload 10, 2) := by decide +kernel
theorem d_M_toCore_163 : decode c_M_toCore 163 = .ok (.ifCond .eq 16, 3) := by decide +kernel
theorem d_M_toCore_166 : decode c_M_toCore 166 = .ok (.aload_n 0, 1) := by decide +kernel
theorem d_M_toCore_167 : decode c_M_toCore 167 = .ok (.bipush 11, 2) := by decide +kernel
theorem d_M_toCore_169 : decode c_M_toCore 169 = .ok (.iload_n 2, 1) := by decide +kernel
theorem d_M_toCore_170 : decode c_M_toCore 170 = .ok (.iload_n 3, 1) := by decide +kernel
theorem d_M_toCore_171 : decode c_M_toCore 171 = .ok (.iload 4, 2) := by decide +kernel
theorem d_M_toCore_173 : decode c_M_toCore 173 = .ok (.iload 4, 2) := by decide +kernel
theorem d_M_toCore_175 : decode c_M_toCore 175 = .ok (.iconst 0, 1) := by decide +kernel
theorem d_M_toCore_176 : decode c_M_toCore 176 = .ok (.invokevirtual 130, 3) := by decide +kernel
theorem d_M_toCore_179 : decode c_M_toCore 179 = .ok (.goto 151, 3) := by decide +kernel
theorem d_M_toCore_182 : decode c_M_toCore 182 = .ok (.iload_n 1, 1) := by decide +kernel
theorem d_M_toCore_183 : decode c_M_toCore 183 = .ok (.bipush 8, 2) := by decide +kernel
theorem d_M_toCore_185 : decode c_M_toCore 185 = .ok (.if_icmp .ne 14, 3) := by decide +kernel
theorem d_M_toCore_188 : decode c_M_toCore 188 = .ok (.aload_n 0, 1) := by decide +kernel
theorem d_M_toCore_189 : decode c_M_toCore 189 = .ok (.getfield 7, 3) := by decide +kernel
theorem d_M_toCore_192 : decode c_M_toCore 192 = .ok (.iload 7, 2) := by decide +kernel
theorem d_M_toCore_194 : decode c_M_toCore 194 = .ok (.iconst 0, 1) := by decide +kernel
theorem d_M_toCore_195 : decode c_M_toCore 195 = .ok (.iastore, 1) := by decide +kernel
theorem d_M_toCore_196 : decode c_M_toCore 196 = .ok (.goto 134, 3) := by decide +kernel
theorem d_M_toCore_199 : decode c_M_toCore 199 = .ok (.iload_n 1, 1) := by decide +kernel
theorem d_M_toCore_200 : decode c_M_toCore 200 = .ok (.bipush 11, 2) := by decide +kernel
theorem d_M_toCore_202 : decode c_M_toCore 202 = .ok (.if_icmp .ne 37, 3) := by decide +kernel
theorem d_M_toCore_205 : decode c_M_toCore 205 = .ok (.aload_n 0, 1) := by decide +kernel
theorem d_M_toCore_206 : decode c_M_toCore 206 = .ok (.getfield 19, 3) := by decide +kernel
theorem d_M_toCore_209 : decode c_M_toCore 209 = .ok (.iload 7, 2) := by decide +kernel
theorem d_M_toCore_211 : decode c_M_toCore 211 = .ok (.dup2, 1) := by decide +kernel
theorem d_M_toCore_212 : decode c_M_toCore 212 = .ok (.iaload, 1) := by decide +kernel
theorem d_M_toCore_213 : decode c_M_toCore 213 = .ok (.iconst 1, 1) := by decide +kernel
theorem d_M_toCore_214 : decode c_M_toCore 214 = .ok (.iadd, 1) := by decide +kernel
theorem d_M_toCore_215 : decode c_M_toCore 215 = .ok (.iastore, 1) := by decide +kernel
theorem d_M_toCore_216 : decode c_M_toCore 216 = .ok (.iload 8, 2) := by decide +kernel
theorem d_M_toCore_218 : decode c_M_toCore 218 = .ok (.bipush 6, 2) := by decide +kernel
theorem d_M_toCore_220 : decode c_M_toCore 220 = .ok (.if_icmp .eq 10, 3) := by decide +kernel
theorem d_M_toCore_223 : decode c_M_toCore 223 = .ok (.iload 8, 2) := by decide +kernel
theorem d_M_toCore_225 : decode c_M_toCore 225 = .ok (.bipush 8, 2) := by decide +kernel
theorem d_M_toCore_227 : decode c_M_toCore 227 = .ok (.if_icmp .ne 103, 3) := by decide +kernel
theorem d_M_toCore_230 : decode c_M_toCore 230 = .ok (.aload_n 0, 1) := by decide +kernel
theorem d_M_toCore_231 : decode c_M_toCore 231 = .ok (.iload_n 3, 1) := by decide +kernel
theorem d_M_toCore_232 : decode c_M_toCore 232 = .ok (.iload_n 2, 1) := by decide +kernel
theorem d_M_toCore_233 : decode c_M_toCore 233 = .ok (.invokevirtual 133, 3) := by decide +kernel
theorem d_M_toCore_236 : decode c_M_toCore 236 = .ok (.goto 94, 3) := by decide +kernel
theorem d_M_toCore_239 : decode c_M_toCore 239 = .ok (.aload_n 0, 1) := by decide +kernel
theorem d_M_toCore_240 : decode c_M_toCore 240 = .ok (.getfield 13, 3) := by decide +kernel
theorem d_M_toCore_243 : decode c_M_toCore 243 = .ok (.iload 7, 2) := by decide +kernel
theorem d_M_toCore_245 : decode c_M_toCore 245 = .ok (.iload 6, 2) := by decide +kernel
theorem d_M_toCore_247 : decode c_M_toCore 247 = .ok (.iastore, 1) := by decide +kernel
theorem d_M_toCore_248 : decode c_M_toCore 248 = .ok (.iload_n 1, 1) := by decide +kernel
theorem d_M_toCore_249 : decode c_M_toCore 249 = .ok (.bipush 10, 2) := by decide +kernel
theorem d_M_toCore_251 : decode c_M_toCore 251 = .ok (.if_icmp .ne 20, 3) := by decide +kernel
theorem d_M_toCore_254 : decode c_M_toCore 254 = .ok (.aload_n 0, 1) := by decide +kernel
theorem d_M_toCore_255 : decode c_M_toCore 255 = .ok (.getfield 7, 3) := by decide +kernel
theorem d_M_toCore_258 : decode c_M_toCore 258 = .ok (.iload 7, 2) := by decide +kernel
theorem d_M_toCore_260 : decode c_M_toCore 260 = .ok (.iconst 2, 1) := by decide +kernel
theorem d_M_toCore_261 : decode c_M_toCore 261 = .ok (.iastore, 1) := by decide +kernel
theorem d_M_toCore_262 : decode c_M_toCore 262 = .ok (.aload_n 0, 1) := by decide +kernel
theorem d_M_toCore_263 : decode c_M_toCore 263 = .ok (.iload_n 3, 1) := by decide +kernel
theorem d_M_toCore_264 : decode c_M_toCore 264 = .ok (.iload_n 2, 1) := by decide +kernel
theorem d_M_toCore_265 : decode c_M_toCore 265 = .ok (.invokevirtual 136, 3) := by decide +kernel
theorem d_M_toCore_268 : decode c_M_toCore 268 = .ok (.goto 62, 3) := by decide +kernel
theorem d_M_toCore_271 : decode c_M_toCore 271 = .ok (.iload 8, 2) := by decide +kernel
theorem d_M_toCore_273 : decode c_M_toCore 273 = .ok (.iconst 4, 1) := by decide +kernel
theorem d_M_toCore_274 : decode c_M_toCore 274 = .ok (.if_icmp .ne 20, 3) := by decide +kernel
theorem d_M_toCore_277 : decode c_M_toCore 277 = .ok (.aload_n 0, 1) := by decide +kernel
theorem d_M_toCore_278 : decode c_M_toCore 278 = .ok (.getfield 7, 3) := by decide +kernel
theorem d_M_toCore_281 : decode c_M_toCore 281 = .ok (.iload 7, 2) := by decide +kernel
theorem d_M_toCore_283 : decode c_M_toCore 283 = .ok (.iconst 1, 1) := by decide +kernel
theorem d_M_toCore_284 : decode c_M_toCore 284 = .ok (.iastore, 1) := by decide +kernel
theorem d_M_toCore_285 : decode c_M_toCore 285 = .ok (.aload_n 0, 1) := by decide +kernel
theorem d_M_toCore_286 : decode c_M_toCore 286 = .ok (.iload_n 3, 1) := by decide +kernel
theorem d_M_toCore_287 : decode c_M_toCore 287 = .ok (.iload_n 2, 1) := by decide +kernel
theorem d_M_toCore_288 : decode c_M_toCore 288 = .ok (.invokevirtual 136, 3) := by decide +kernel
theorem d_M_toCore_291 : decode c_M_toCore 291 = .ok (.goto 39, 3) := by decide +kernel
theorem d_M_toCore_294 : decode c_M_toCore 294 = .ok (.aload_n 0, 1) := by decide +kernel
theorem d_M_toCore_295 : decode c_M_toCore 295 = .ok (.getfield 16, 3) := by decide +kernel
theorem d_M_toCore_298 : decode c_M_toCore 298 = .ok (.iload 7, 2) := by decide +kernel
theorem d_M_toCore_300 : decode c_M_toCore 300 = .ok (.iload 5, 2) := by decide +kernel
theorem d_M_toCore_302 : decode c_M_toCore 302 = .ok (.iastore, 1) := by decide +kernel
theorem d_M_toCore_303 : decode c_M_toCore 303 = .ok (.aload_n 0, 1) := by decide +kernel
theorem d_M_toCore_304 : decode c_M_toCore 304 = .ok (.getfield 7, 3) := by decide +kernel
theorem d_M_toCore_307 : decode c_M_toCore 307 = .ok (.iload 7, 2) := by decide +kernel
theorem d_M_toCore_309 : decode c_M_toCore 309 = .ok (.iload 8, 2) := by decide +kernel
theorem d_M_toCore_311 : decode c_M_toCore 311 = .ok (.bipush 7, 2) := by decide +kernel
theorem d_M_toCore_313 : decode c_M_toCore 313 = .ok (.if_icmp .ne 8, 3) := by decide +kernel
theorem d_M_toCore_316 : decode c_M_toCore 316 = .ok (.bipush 8, 2) := by decide +kernel
theorem d_M_toCore_318 : decode c_M_toCore 318 = .ok (.goto 5, 3) := by decide +kernel
theorem d_M_toCore_321 : decode c_M_toCore 321 = .ok (.bipush 6, 2) := by decide +kernel
theorem d_M_toCore_323 : decode c_M_toCore 323 = .ok (.iastore, 1) := by decide +kernel
theorem d_M_toCore_324 : decode c_M_toCore 324 = .ok (.aload_n 0, 1) := by decide +kernel
theorem d_M_toCore_325 : decode c_M_toCore 325 = .ok (.iload_n 3, 1) := by decide +kernel
theorem d_M_toCore_326 : decode c_M_toCore 326 = .ok (.iload_n 2, 1) := by decide +kernel
theorem d_M_toCore_327 : decode c_M_toCore 327 = .ok (.invokevirtual 133, 3) := by decide +kernel
theorem d_M_toCore_330 : decode c_M_toCore 330 = .ok (.return_, 1) := by decide +kernel
theorem d_M_acknowledged_0 : decode c_M_acknowledged 0 = .ok (.iconst 4, 1) := by decide +kernel
theorem d_M_acknowledged_1 : decode c_M_acknowledged 1 = .ok (.iload_n 1, 1) := by decide +kernel
theorem d_M_acknowledged_2 : decode c_M_acknowledged 2 = .ok (.imul, 1) := by decide +kernel
theorem d_M_acknowledged_3 : decode c_M_acknowledged 3 = .ok (.iload_n 2, 1) := by decide +kernel
theorem d_M_acknowledged_4 : decode c_M_acknowledged 4 = .ok (.iadd, 1) := by decide +kernel
theorem d_M_acknowledged_5 : decode c_M_acknowledged 5 = .ok (.istore_n 3, 1) := by decide +kernel
theorem d_M_acknowledged_6 : decode c_M_acknowledged 6 = .ok (.aload_n 0, 1) := by decide +kernel
theorem d_M_acknowledged_7 : decode c_M_acknowledged 7 = .ok (.getfield 19, 3) := by decide +kernel
theorem d_M_acknowledged_10 : decode c_M_acknowledged 10 = .ok (.iload_n 3, 1) := by decide +kernel
theorem d_M_acknowledged_11 : decode c_M_acknowledged 11 = .ok (.iaload, 1) := by decide +kernel
theorem d_M_acknowledged_12 : decode c_M_acknowledged 12 = .ok (.aload_n 0, 1) := by decide +kernel
theorem d_M_acknowledged_13 : decode c_M_acknowledged 13 = .ok (.getfield 16, 3) := by decide +kernel
theorem d_M_acknowledged_16 : decode c_M_acknowledged 16 = .ok (.iload_n 3, 1) := by decide +kernel
theorem d_M_acknowledged_17 : decode c_M_acknowledged 17 = .ok (.iaload, 1) := by decide +kernel
theorem d_M_acknowledged_18 : decode c_M_acknowledged 18 = .ok (.if_icmp .eq 4, 3) := by decide +kernel
theorem d_M_acknowledged_21 : decode c_M_acknowledged 21 = .ok (.return_, 1) := by decide +kernel
theorem d_M_acknowledged_22 : decode c_M_acknowledged 22 = .ok (.aload_n 0, 1) := by decide +kernel
theorem d_M_acknowledged_23 : decode c_M_acknowledged 23 = .ok (.getfield 7, 3) := by decide +kernel
theorem d_M_acknowledged_26 : decode c_M_acknowledged 26 = .ok (.iload_n 3, 1) := by decide +kernel
theorem d_M_acknowledged_27 : decode c_M_acknowledged 27 = .ok (.iconst 3, 1) := by decide +kernel
theorem d_M_acknowledged_28 : decode c_M_acknowledged 28 = .ok (.iastore, 1) := by decide +kernel
theorem d_M_acknowledged_29 : decode c_M_acknowledged 29 = .ok (.aload_n 0, 1) := by decide +kernel
theorem d_M_acknowledged_30 : decode c_M_acknowledged 30 = .ok (.iload_n 1, 1) := by decide +kernel
theorem d_M_acknowledged_31 : decode c_M_acknowledged 31 = .ok (.iload_n 2, 1) := by decide +kernel
theorem d_M_acknowledged_32 : decode c_M_acknowledged 32 = .ok (.invokevirtual 136, 3) := by decide +kernel
theorem d_M_acknowledged_35 : decode c_M_acknowledged 35 = .ok (.return_, 1) := by decide +kernel
theorem d_M_finish_0 : decode c_M_finish 0 = .ok (.iconst 4, 1) := by decide +kernel
theorem d_M_finish_1 : decode c_M_finish 1 = .ok (.iload_n 1, 1) := by decide +kernel
theorem d_M_finish_2 : decode c_M_finish 2 = .ok (.imul, 1) := by decide +kernel
theorem d_M_finish_3 : decode c_M_finish 3 = .ok (.iload_n 2, 1) := by decide +kernel
theorem d_M_finish_4 : decode c_M_finish 4 = .ok (.iadd, 1) := by decide +kernel
theorem d_M_finish_5 : decode c_M_finish 5 = .ok (.istore_n 3, 1) := by decide +kernel
theorem d_M_finish_6 : decode c_M_finish 6 = .ok (.aload_n 0, 1) := by decide +kernel
theorem d_M_finish_7 : decode c_M_finish 7 = .ok (.getfield 13, 3) := by decide +kernel
theorem d_M_finish_10 : decode c_M_finish 10 = .ok (.iload_n 3, 1) := by decide +kernel
theorem d_M_finish_11 : decode c_M_finish 11 = .ok (.iaload, 1) := by decide +kernel
theorem d_M_finish_12 : decode c_M_finish 12 = .ok (.istore 4, 2) := by decide +kernel
theorem d_M_finish_14 : decode c_M_finish 14 = .ok (.aload_n 0, 1) := by decide +kernel
theorem d_M_finish_15 : decode c_M_finish 15 = .ok (.getfield 32, 3) := by decide +kernel
theorem d_M_finish_18 : decode c_M_finish 18 = .ok (.iload_n 1, 1) := by decide +kernel
theorem d_M_finish_19 : decode c_M_finish 19 = .ok (.iaload, 1) := by decide +kernel
theorem d_M_finish_20 : decode c_M_finish 20 = .ok (.iconst 1, 1) := by decide +kernel
theorem d_M_finish_21 : decode c_M_finish 21 = .ok (.if_icmp .ne 11, 3) := by decide +kernel
theorem d_M_finish_24 : decode c_M_finish 24 = .ok (.aload_n 0, 1) := by decide +kernel
theorem d_M_finish_25 : decode c_M_finish 25 = .ok (.getfield 35, 3) := by decide +kernel
theorem d_M_finish_28 : decode c_M_finish 28 = .ok (.iload_n 1, 1) := by decide +kernel
theorem d_M_finish_29 : decode c_M_finish 29 = .ok (.iaload, 1) := by decide +kernel
theorem d_M_finish_30 : decode c_M_finish 30 = .ok (.istore 4, 2) := by decide +kernel
theorem d_M_finish_32 : decode c_M_finish 32 = .ok (.aload_n 0, 1) := by decide +kernel
theorem d_M_finish_33 : decode c_M_finish 33 = .ok (.getfield 32, 3) := by decide +kernel
theorem d_M_finish_36 : decode c_M_finish 36 = .ok (.iload_n 1, 1) := by decide +kernel
theorem d_M_finish_37 : decode c_M_finish 37 = .ok (.iaload, 1) := by decide +kernel
theorem d_M_finish_38 : decode c_M_finish 38 = .ok (.ifCond .le 44, 3) := by decide +kernel
theorem d_M_finish_41 : decode c_M_finish 41 = .ok (.aload_n 0, 1) := by decide +kernel
theorem d_M_finish_42 : decode c_M_finish 42 = .ok (.getfield 13, 3) := by decide +kernel
theorem d_M_finish_45 : decode c_M_finish 45 = .ok (.iload_n 3, 1) := by decide +kernel
theorem d_M_finish_46 : decode c_M_finish 46 = .ok (.aload_n 0, 1) := by decide +kernel
theorem d_M_finish_47 : decode c_M_finish 47 = .ok (.getfield 32, 3) := by decide +kernel
theorem d_M_finish_50 : decode c_M_finish 50 = .ok (.iload_n 1, 1) := by decide +kernel
theorem d_M_finish_51 : decode c_M_finish 51 = .ok (.iaload, 1) := by decide +kernel
theorem d_M_finish_52 : decode c_M_finish 52 = .ok (.iconst 1, 1) := by decide +kernel
theorem d_M_finish_53 : decode c_M_finish 53 = .ok (.if_icmp .ne 12, 3) := by decide +kernel
theorem d_M_finish_56 : decode c_M_finish 56 = .ok (.aload_n 0, 1) := by decide +kernel
theorem d_M_finish_57 : decode c_M_finish 57 = .ok (.getfield 35, 3) := by decide +kernel
theorem d_M_finish_60 : decode c_M_finish 60 = .ok (.iload_n 1, 1) := by decide +kernel
theorem d_M_finish_61 : decode c_M_finish 61 = .ok (.iaload, 1) := by decide +kernel
theorem d_M_finish_62 : decode c_M_finish 62 = .ok (.goto 12, 3) := by decide +kernel
theorem d_M_finish_65 : decode c_M_finish 65 = .ok (.iload 4, 2) := by decide +kernel
theorem d_M_finish_67 : decode c_M_finish 67 = .ok (.aload_n 0, 1) := by decide +kernel
theorem d_M_finish_68 : decode c_M_finish 68 = .ok (.getfield 35, 3) := by decide +kernel
theorem d_M_finish_71 : decode c_M_finish 71 = .ok (.iload_n 1, 1) := by decide +kernel
theorem d_M_finish_72 : decode c_M_finish 72 = .ok (.iaload, 1) := by decide +kernel
theorem d_M_finish_73 : decode c_M_finish 73 = .ok (.iadd, 1) := by decide +kernel
theorem d_M_finish_74 : decode c_M_finish 74 = .ok (.iastore, 1) := by decide +kernel
theorem d_M_finish_75 : decode c_M_finish 75 = .ok (.aload_n 0, 1) := by decide +kernel
theorem d_M_finish_76 : decode c_M_finish 76 = .ok (.getfield 7, 3) := by decide +kernel
theorem d_M_finish_79 : decode c_M_finish 79 = .ok (.iload_n 3, 1) := by decide +kernel
theorem d_M_finish_80 : decode c_M_finish 80 = .ok (.iconst 3, 1) := by decide +kernel
theorem d_M_finish_81 : decode c_M_finish 81 = .ok (.iastore, 1) := by decide +kernel
theorem d_M_finish_82 : decode c_M_finish 82 = .ok (.aload_n 0, 1) := by decide +kernel
theorem d_M_finish_83 : decode c_M_finish 83 = .ok (.getfield 41, 3) := by decide +kernel
theorem d_M_finish_86 : decode c_M_finish 86 = .ok (.iload_n 1, 1) := by decide +kernel
theorem d_M_finish_87 : decode c_M_finish 87 = .ok (.iload 4, 2) := by decide +kernel
theorem d_M_finish_89 : decode c_M_finish 89 = .ok (.iastore, 1) := by decide +kernel
theorem d_M_finish_90 : decode c_M_finish 90 = .ok (.aload_n 0, 1) := by decide +kernel
theorem d_M_finish_91 : decode c_M_finish 91 = .ok (.getfield 38, 3) := by decide +kernel
theorem d_M_finish_94 : decode c_M_finish 94 = .ok (.iload_n 1, 1) := by decide +kernel
theorem d_M_finish_95 : decode c_M_finish 95 = .ok (.dup2, 1) := by decide +kernel
theorem d_M_finish_96 : decode c_M_finish 96 = .ok (.iaload, 1) := by decide +kernel
theorem d_M_finish_97 : decode c_M_finish 97 = .ok (.iconst 1, 1) := by decide +kernel
theorem d_M_finish_98 : decode c_M_finish 98 = .ok (.iadd, 1) := by decide +kernel
theorem d_M_finish_99 : decode c_M_finish 99 = .ok (.iastore, 1) := by decide +kernel
theorem d_M_finish_100 : decode c_M_finish 100 = .ok (.aload_n 0, 1) := by decide +kernel
theorem d_M_finish_101 : decode c_M_finish 101 = .ok (.getfield 25, 3) := by decide +kernel
theorem d_M_finish_104 : decode c_M_finish 104 = .ok (.iload_n 1, 1) := by decide +kernel
theorem d_M_finish_105 : decode c_M_finish 105 = .ok (.iconst 0, 1) := by decide +kernel
theorem d_M_finish_106 : decode c_M_finish 106 = .ok (.bastore, 1) := by decide +kernel
theorem d_M_finish_107 : decode c_M_finish 107 = .ok (.return_, 1) := by decide +kernel
theorem d_M_start_0 : decode c_M_start 0 = .ok (.iload_n 1, 1) := by decide +kernel
theorem d_M_start_1 : decode c_M_start 1 = .ok (.invokestatic 139, 3) := by decide +kernel
theorem d_M_start_4 : decode c_M_start 4 = .ok (.ifCond .eq 10, 3) := by decide +kernel
theorem d_M_start_7 : decode c_M_start 7 = .ok (.iload_n 2, 1) := by decide +kernel
theorem d_M_start_8 : decode c_M_start 8 = .ok (.invokestatic 139, 3) := by decide +kernel
theorem d_M_start_11 : decode c_M_start 11 = .ok (.ifCond .ne 5, 3) := by decide +kernel
theorem d_M_start_14 : decode c_M_start 14 = .ok (.iconst (-1), 1) := by decide +kernel
theorem d_M_start_15 : decode c_M_start 15 = .ok (.ireturn, 1) := by decide +kernel
theorem d_M_start_16 : decode c_M_start 16 = .ok (.iconst 4, 1) := by decide +kernel
theorem d_M_start_17 : decode c_M_start 17 = .ok (.iload_n 1, 1) := by decide +kernel
theorem d_M_start_18 : decode c_M_start 18 = .ok (.imul, 1) := by decide +kernel
theorem d_M_start_19 : decode c_M_start 19 = .ok (.iload_n 2, 1) := by decide +kernel
theorem d_M_start_20 : decode c_M_start 20 = .ok (.iadd, 1) := by decide +kernel
theorem d_M_start_21 : decode c_M_start 21 = .ok (.istore 5, 2) := by decide +kernel
theorem d_M_start_23 : decode c_M_start 23 = .ok (.aload_n 0, 1) := by decide +kernel
theorem d_M_start_24 : decode c_M_start 24 = .ok (.getfield 25, 3) := by decide +kernel
theorem d_M_start_27 : decode c_M_start 27 = .ok (.iload_n 1, 1) := by decide +kernel
theorem d_M_start_28 : decode c_M_start 28 = .ok (.baload, 1) := by decide +kernel
theorem d_M_start_29 : decode c_M_start 29 = .ok (.ifCond .ne 14, 3) := by decide +kernel
theorem d_M_start_32 : decode c_M_start 32 = .ok (.aload_n 0, 1) := by decide +kernel
theorem d_M_start_33 : decode c_M_start 33 = .ok (.getfield 7, 3) := by decide +kernel
theorem d_M_start_36 : decode c_M_start 36 = .ok (.iload 5, 2) := by decide +kernel
theorem d_M_start_38 : decode c_M_start 38 = .ok (.iaload, 1) := by decide +kernel
theorem d_M_start_39 : decode c_M_start 39 = .ok (.iconst 3, 1) := by decide +kernel
theorem d_M_start_40 : decode c_M_start 40 = .ok (.if_icmp .le 6, 3) := by decide +kernel
theorem d_M_start_43 : decode c_M_start 43 = .ok (.bipush (-2), 2) := by decide +kernel
theorem d_M_start_45 : decode c_M_start 45 = .ok (.ireturn, 1) := by decide +kernel
theorem d_M_start_46 : decode c_M_start 46 = .ok (.aload_n 0, 1) := by decide +kernel
theorem d_M_start_47 : decode c_M_start 47 = .ok (.getfield 32, 3) := by decide +kernel
theorem d_M_start_50 : decode c_M_start 50 = .ok (.iload_n 1, 1) := by decide +kernel
theorem d_M_start_51 : decode c_M_start 51 = .ok (.iload_n 3, 1) := by decide +kernel
theorem d_M_start_52 : decode c_M_start 52 = .ok (.iastore, 1) := by decide +kernel
theorem d_M_start_53 : decode c_M_start 53 = .ok (.aload_n 0, 1) := by decide +kernel
theorem d_M_start_54 : decode c_M_start 54 = .ok (.getfield 35, 3) := by decide +kernel
theorem d_M_start_57 : decode c_M_start 57 = .ok (.iload_n 1, 1) := by decide +kernel
theorem d_M_start_58 : decode c_M_start 58 = .ok (.iload 4, 2) := by decide +kernel
theorem d_M_start_60 : decode c_M_start 60 = .ok (.iastore, 1) := by decide +kernel
theorem d_M_start_61 : decode c_M_start 61 = .ok (.aload_n 0, 1) := by decide +kernel
theorem d_M_start_62 : decode c_M_start 62 = .ok (.getfield 7, 3) := by decide +kernel
theorem d_M_start_65 : decode c_M_start 65 = .ok (.iload 5, 2) := by decide +kernel
theorem d_M_start_67 : decode c_M_start 67 = .ok (.iaload, 1) := by decide +kernel
theorem d_M_start_68 : decode c_M_start 68 = .ok (.iload_n 3, 1) := by decide +kernel
theorem d_M_start_69 : decode c_M_start 69 = .ok (.ifCond .ne 7, 3) := by decide +kernel
theorem d_M_start_72 : decode c_M_start 72 = .ok (.iconst 0, 1) := by decide +kernel
theorem d_M_start_73 : decode c_M_start 73 = .ok (.goto 4, 3) := by decide +kernel
theorem d_M_start_76 : decode c_M_start 76 = .ok (.iconst 1, 1) := by decide +kernel
theorem d_M_start_77 : decode c_M_start 77 = .ok (.if_icmp .le 11, 3) := by decide +kernel
theorem d_M_start_80 : decode c_M_start 80 = .ok (.aload_n 0, 1) := by decide +kernel
theorem d_M_start_81 : decode c_M_start 81 = .ok (.iload_n 1, 1) := by decide +kernel
theorem d_M_start_82 : decode c_M_start 82 = .ok (.iload_n 2, 1) := by decide +kernel
theorem d_M_start_83 : decode c_M_start 83 = .ok (.invokevirtual 136, 3) := by decide +kernel
theorem d_M_start_86 : decode c_M_start 86 = .ok (.iconst 1, 1) := by decide +kernel
theorem d_M_start_87 : decode c_M_start 87 = .ok (.ireturn, 1) := by decide +kernel
theorem d_M_start_88 : decode c_M_start 88 = .ok (.aload_n 0, 1) := by decide +kernel
theorem d_M_start_89 : decode c_M_start 89 = .ok (.getfield 25, 3) := by decide +kernel
theorem d_M_start_92 : decode c_M_start 92 = .ok (.iload_n 1, 1) := by decide +kernel
theorem d_M_start_93 : decode c_M_start 93 = .ok (.iconst 1, 1) := by decide +kernel
theorem d_M_start_94 : decode c_M_start 94 = .ok (.bastore, 1) := by decide +kernel
theorem d_M_start_95 : decode c_M_start 95 = .ok (.aload_n 0, 1) := by decide +kernel
theorem d_M_start_96 : decode c_M_start 96 = .ok (.getfield 29, 3) := by decide +kernel
theorem d_M_start_99 : decode c_M_start 99 = .ok (.iload_n 1, 1) := by decide +kernel
theorem d_M_start_100 : decode c_M_start 100 = .ok (.iload_n 2, 1) := by decide +kernel
theorem d_M_start_101 : decode c_M_start 101 = .ok (.iastore, 1) := by decide +kernel
theorem d_M_start_102 : decode c_M_start 102 = .ok (.aload_n 0, 1) := by decide +kernel
theorem d_M_start_103 : decode c_M_start 103 = .ok (.getfield 19, 3) := by decide +kernel
theorem d_M_start_106 : decode c_M_start 106 = .ok (.iload 5, 2) := by decide +kernel
theorem d_M_start_108 : decode c_M_start 108 = .ok (.iconst 0, 1) := by decide +kernel
theorem d_M_start_109 : decode c_M_start 109 = .ok (.iastore, 1) := by decide +kernel
theorem d_M_start_110 : decode c_M_start 110 = .ok (.aload_n 0, 1) := by decide +kernel
theorem d_M_start_111 : decode c_M_start 111 = .ok (.getfield 16, 3) := by decide +kernel
theorem d_M_start_114 : decode c_M_start 114 = .ok (.iload 5, 2) := by decide +kernel
theorem d_M_start_116 : decode c_M_start 116 = .ok (.iconst 0, 1) := by decide +kernel
theorem d_M_start_117 : decode c_M_start 117 = .ok (.iastore, 1) := by decide +kernel
theorem d_M_start_118 : decode c_M_start 118 = .ok (.aload_n 0, 1) := by decide +kernel
theorem d_M_start_119 : decode c_M_start 119 = .ok (.getfield 7, 3) := by decide +kernel
theorem d_M_start_122 : decode c_M_start 122 = .ok (.iload 5, 2) := by decide +kernel
theorem d_M_start_124 : decode c_M_start 124 = .ok (.iload_n 3, 1) := by decide +kernel
theorem d_M_start_125 : decode c_M_start 125 = .ok (.ifCond .ne 7, 3) := by decide +kernel
theorem d_M_start_128 : decode c_M_start 128 = .ok (.iconst 4, 1) := by decide +kernel
theorem d_M_start_129 : decode c_M_start 129 = .ok (.goto 20, 3) := by decide +kernel
theorem d_M_start_132 : decode c_M_start 132 = .ok (.aload_n 0, 1) := by decide +kernel
theorem d_M_start_133 : decode c_M_start 133 = .ok (.getfield 7, 3) := by decide +kernel
theorem d_M_start_136 : decode c_M_start 136 = .ok (.iload 5, 2) := by decide +kernel
theorem d_M_start_138 : decode c_M_start 138 = .ok (.iaload, 1) := by decide +kernel
theorem d_M_start_139 : decode c_M_start 139 = .ok (.iconst 1, 1) := by decide +kernel
theorem d_M_start_140 : decode c_M_start 140 = .ok (.if_icmp .ne 8, 3) := by decide +kernel
theorem d_M_start_143 : decode c_M_start 143 = .ok (.bipush 7, 2) := by decide +kernel
theorem d_M_start_145 : decode c_M_start 145 = .ok (.goto 4, 3) := by decide +kernel
theorem d_M_start_148 : decode c_M_start 148 = .ok (.iconst 5, 1) := by decide +kernel
theorem d_M_start_149 : decode c_M_start 149 = .ok (.iastore, 1) := by decide +kernel
theorem d_M_start_150 : decode c_M_start 150 = .ok (.aload_n 0, 1) := by decide +kernel
theorem d_M_start_151 : decode c_M_start 151 = .ok (.iload_n 3, 1) := by decide +kernel
theorem d_M_start_152 : decode c_M_start 152 = .ok (.ifCond .ne 7, 3) := by decide +kernel
theorem d_M_start_155 : decode c_M_start 155 = .ok (.iconst 0, 1) := by decide +kernel
theorem d_M_start_156 : decode c_M_start 156 = .ok (.goto 4, 3) := by decide +kernel
theorem d_M_start_159 : decode c_M_start 159 = .ok (.iconst 1, 1) := by decide +kernel
theorem d_M_start_160 : decode c_M_start 160 = .ok (.iload_n 2, 1) := by decide +kernel
theorem d_M_start_161 : decode c_M_start 161 = .ok (.iload_n 1, 1) := by decide +kernel
theorem d_M_start_162 : decode c_M_start 162 = .ok (.iconst 4, 1) := by decide +kernel
theorem d_M_start_163 : decode c_M_start 163 = .ok (.iload_n 1, 1) := by decide +kernel
theorem d_M_start_164 : decode c_M_start 164 = .ok (.iconst 0, 1) := by decide +kernel
theorem d_M_start_165 : decode c_M_start 165 = .ok (.invokevirtual 130, 3) := by decide +kernel
theorem d_M_start_168 : decode c_M_start 168 = .ok (.iconst 0, 1) := by decide +kernel
theorem d_M_start_169 : decode c_M_start 169 = .ok (.ireturn, 1) := by decide +kernel
theorem d_M_load_0 : decode c_M_load 0 = .ok (.aload_n 0, 1) := by decide +kernel
theorem d_M_load_1 : decode c_M_load 1 = .ok (.iload_n 1, 1) := by decide +kernel
theorem d_M_load_2 : decode c_M_load 2 = .ok (.iload_n 2, 1) := by decide +kernel
theorem d_M_load_3 : decode c_M_load 3 = .ok (.iconst 0, 1) := by decide +kernel
theorem d_M_load_4 : decode c_M_load 4 = .ok (.iconst 0, 1) := by decide +kernel
theorem d_M_load_5 : decode c_M_load 5 = .ok (.invokevirtual 142, 3) := by decide +kernel
theorem d_M_load_8 : decode c_M_load 8 = .ok (.ireturn, 1) := by decide +kernel
theorem d_M_store_0 : decode c_M_store 0 = .ok (.aload_n 0, 1) := by decide +kernel
theorem d_M_store_1 : decode c_M_store 1 = .ok (.iload_n 1, 1) := by decide +kernel
theorem d_M_store_2 : decode c_M_store 2 = .ok (.iload_n 2, 1) := by decide +kernel
theorem d_M_store_3 : decode c_M_store 3 = .ok (.iconst 1, 1) := by decide +kernel
theorem d_M_store_4 : decode c_M_store 4 = .ok (.iload_n 3, 1) := by decide +kernel
theorem d_M_store_5 : decode c_M_store 5 = .ok (.invokevirtual 142, 3) := by decide +kernel
theorem d_M_store_8 : decode c_M_store 8 = .ok (.ireturn, 1) := by decide +kernel
theorem d_M_add_0 : decode c_M_add 0 = .ok (.aload_n 0, 1) := by decide +kernel
theorem d_M_add_1 : decode c_M_add 1 = .ok (.iload_n 1, 1) := by decide +kernel
theorem d_M_add_2 : decode c_M_add 2 = .ok (.iload_n 2, 1) := by decide +kernel
theorem d_M_add_3 : decode c_M_add 3 = .ok (.iconst 2, 1) := by decide +kernel
theorem d_M_add_4 : decode c_M_add 4 = .ok (.iload_n 3, 1) := by decide +kernel
theorem d_M_add_5 : decode c_M_add 5 = .ok (.invokevirtual 142, 3) := by decide +kernel
theorem d_M_add_8 : decode c_M_add 8 = .ok (.ireturn, 1) := by decide +kernel
theorem d_M_leave_0 : decode c_M_leave 0 = .ok (.iload_n 1, 1) := by decide +kernel
theorem d_M_leave_1 : decode c_M_leave 1 = .ok (.invokestatic 139, 3) := by decide +kernel
theorem d_M_leave_4 : decode c_M_leave 4 = .ok (.ifCond .eq 10, 3) := by decide +kernel
theorem d_M_leave_7 : decode c_M_leave 7 = .ok (.iload_n 2, 1) := by decide +kernel
theorem d_M_leave_8 : decode c_M_leave 8 = .ok (.invokestatic 139, 3) := by decide +kernel
theorem d_M_leave_11 : decode c_M_leave 11 = .ok (.ifCond .ne 5, 3) := by decide +kernel
theorem d_M_leave_14 : decode c_M_leave 14 = .ok (.iconst (-1), 1) := by decide +kernel
theorem d_M_leave_15 : decode c_M_leave 15 = .ok (.ireturn, 1) := by decide +kernel
theorem d_M_leave_16 : decode c_M_leave 16 = .ok (.iconst 4, 1) := by decide +kernel
theorem d_M_leave_17 : decode c_M_leave 17 = .ok (.iload_n 1, 1) := by decide +kernel
theorem d_M_leave_18 : decode c_M_leave 18 = .ok (.imul, 1) := by decide +kernel
theorem d_M_leave_19 : decode c_M_leave 19 = .ok (.iload_n 2, 1) := by decide +kernel
theorem d_M_leave_20 : decode c_M_leave 20 = .ok (.iadd, 1) := by decide +kernel
theorem d_M_leave_21 : decode c_M_leave 21 = .ok (.istore_n 3, 1) := by decide +kernel
theorem d_M_leave_22 : decode c_M_leave 22 = .ok (.aload_n 0, 1) := by decide +kernel
theorem d_M_leave_23 : decode c_M_leave 23 = .ok (.getfield 7, 3) := by decide +kernel
theorem d_M_leave_26 : decode c_M_leave 26 = .ok (.iload_n 3, 1) := by decide +kernel
theorem d_M_leave_27 : decode c_M_leave 27 = .ok (.iaload, 1) := by decide +kernel
theorem d_M_leave_28 : decode c_M_leave 28 = .ok (.istore 4, 2) := by decide +kernel
theorem d_M_leave_30 : decode c_M_leave 30 = .ok (.iload 4, 2) := by decide +kernel
theorem d_M_leave_32 : decode c_M_leave 32 = .ok (.iconst 3, 1) := by decide +kernel
theorem d_M_leave_33 : decode c_M_leave 33 = .ok (.if_icmp .le 6, 3) := by decide +kernel
theorem d_M_leave_36 : decode c_M_leave 36 = .ok (.bipush (-2), 2) := by decide +kernel
theorem d_M_leave_38 : decode c_M_leave 38 = .ok (.ireturn, 1) := by decide +kernel
theorem d_M_leave_39 : decode c_M_leave 39 = .ok (.iload 4, 2) := by decide +kernel
theorem d_M_leave_41 : decode c_M_leave 41 = .ok (.ifCond .ne 5, 3) := by decide +kernel
theorem d_M_leave_44 : decode c_M_leave 44 = .ok (.iconst 0, 1) := by decide +kernel
theorem d_M_leave_45 : decode c_M_leave 45 = .ok (.ireturn, 1) := by decide +kernel
theorem d_M_leave_46 : decode c_M_leave 46 = .ok (.aload_n 0, 1) := by decide +kernel
theorem d_M_leave_47 : decode c_M_leave 47 = .ok (.getfield 7, 3) := by decide +kernel
theorem d_M_leave_50 : decode c_M_leave 50 = .ok (.iload_n 3, 1) := by decide +kernel
theorem d_M_leave_51 : decode c_M_leave 51 = .ok (.bipush 12, 2) := by decide +kernel
theorem d_M_leave_53 : decode c_M_leave 53 = .ok (.iload 4, 2) := by decide +kernel
theorem d_M_leave_55 : decode c_M_leave 55 = .ok (.isub, 1) := by decide +kernel
theorem d_M_leave_56 : decode c_M_leave 56 = .ok (.iastore, 1) := by decide +kernel
theorem d_M_leave_57 : decode c_M_leave 57 = .ok (.aload_n 0, 1) := by decide +kernel
theorem d_M_leave_58 : decode c_M_leave 58 = .ok (.iload 4, 2) := by decide +kernel
theorem d_M_leave_60 : decode c_M_leave 60 = .ok (.iconst 1, 1) := by decide +kernel
theorem d_M_leave_61 : decode c_M_leave 61 = .ok (.iadd, 1) := by decide +kernel
theorem d_M_leave_62 : decode c_M_leave 62 = .ok (.iload_n 2, 1) := by decide +kernel
theorem d_M_leave_63 : decode c_M_leave 63 = .ok (.iload_n 1, 1) := by decide +kernel
theorem d_M_leave_64 : decode c_M_leave 64 = .ok (.iconst 4, 1) := by decide +kernel
theorem d_M_leave_65 : decode c_M_leave 65 = .ok (.iload_n 1, 1) := by decide +kernel
theorem d_M_leave_66 : decode c_M_leave 66 = .ok (.iconst 0, 1) := by decide +kernel
theorem d_M_leave_67 : decode c_M_leave 67 = .ok (.iload 4, 2) := by decide +kernel
theorem d_M_leave_69 : decode c_M_leave 69 = .ok (.iconst 3, 1) := by decide +kernel
theorem d_M_leave_70 : decode c_M_leave 70 = .ok (.if_icmp .ne 12, 3) := by decide +kernel
theorem d_M_leave_73 : decode c_M_leave 73 = .ok (.aload_n 0, 1) := by decide +kernel
theorem d_M_leave_74 : decode c_M_leave 74 = .ok (.getfield 13, 3) := by decide +kernel
theorem d_M_leave_77 : decode c_M_leave 77 = .ok (.iload_n 3, 1) := by decide +kernel
theorem d_M_leave_78 : decode c_M_leave 78 = .ok (.iaload, 1) := by decide +kernel
theorem d_M_leave_79 : decode c_M_leave 79 = .ok (.goto 4, 3) := by decide +kernel
theorem d_M_leave_82 : decode c_M_leave 82 = .ok (.iconst 0, 1) := by decide +kernel
theorem d_M_leave_83 : decode c_M_leave 83 = .ok (.invokevirtual 77, 3) := by decide +kernel
theorem d_M_leave_86 : decode c_M_leave 86 = .ok (.iconst 1, 1) := by decide +kernel
theorem d_M_leave_87 : decode c_M_leave 87 = .ok (.ireturn, 1) := by decide +kernel
theorem d_M_deliver_0 : decode c_M_deliver 0 = .ok (.iload_n 1, 1) := by decide +kernel
theorem d_M_deliver_1 : decode c_M_deliver 1 = .ok (.ifCond .lt 11, 3) := by decide +kernel
theorem d_M_deliver_4 : decode c_M_deliver 4 = .ok (.iload_n 1, 1) := by decide +kernel
theorem d_M_deliver_5 : decode c_M_deliver 5 = .ok (.aload_n 0, 1) := by decide +kernel
theorem d_M_deliver_6 : decode c_M_deliver 6 = .ok (.getfield 81, 3) := by decide +kernel
theorem d_M_deliver_9 : decode c_M_deliver 9 = .ok (.if_icmp .lt 7, 3) := by decide +kernel
theorem d_M_deliver_12 : decode c_M_deliver 12 = .ok (.iconst (-1), 1) := by decide +kernel
theorem d_M_deliver_13 : decode c_M_deliver 13 = .ok (.goto 8, 3) := by decide +kernel
theorem d_M_deliver_16 : decode c_M_deliver 16 = .ok (.aload_n 0, 1) := by decide +kernel
theorem d_M_deliver_17 : decode c_M_deliver 17 = .ok (.iload_n 1, 1) := by decide +kernel
theorem d_M_deliver_18 : decode c_M_deliver 18 = .ok (.invokevirtual 146, 3) := by decide +kernel
theorem d_M_deliver_21 : decode c_M_deliver 21 = .ok (.ireturn, 1) := by decide +kernel
theorem d_M_message_0 : decode c_M_message 0 = .ok (.iload_n 1, 1) := by decide +kernel
theorem d_M_message_1 : decode c_M_message 1 = .ok (.iconst (-1), 1) := by decide +kernel
theorem d_M_message_2 : decode c_M_message 2 = .ok (.if_icmp .ne 8, 3) := by decide +kernel
theorem d_M_message_5 : decode c_M_message 5 = .ok (.aload_n 0, 1) := by decide +kernel
theorem d_M_message_6 : decode c_M_message 6 = .ok (.getfield 81, 3) := by decide +kernel
theorem d_M_message_9 : decode c_M_message 9 = .ok (.ireturn, 1) := by decide +kernel
theorem d_M_message_10 : decode c_M_message 10 = .ok (.iload_n 1, 1) := by decide +kernel
theorem d_M_message_11 : decode c_M_message 11 = .ok (.ifCond .lt 11, 3) := by decide +kernel
theorem d_M_message_14 : decode c_M_message 14 = .ok (.iload_n 1, 1) := by decide +kernel
theorem d_M_message_15 : decode c_M_message 15 = .ok (.aload_n 0, 1) := by decide +kernel
theorem d_M_message_16 : decode c_M_message 16 = .ok (.getfield 81, 3) := by decide +kernel
theorem d_M_message_19 : decode c_M_message 19 = .ok (.if_icmp .lt 5, 3) := by decide +kernel
theorem d_M_message_22 : decode c_M_message 22 = .ok (.iconst (-1), 1) := by decide +kernel
theorem d_M_message_23 : decode c_M_message 23 = .ok (.ireturn, 1) := by decide +kernel
theorem d_M_message_24 : decode c_M_message 24 = .ok (.iload_n 2, 1) := by decide +kernel
theorem d_M_message_25 : decode c_M_message 25 = .ok (.tableswitch 81 0 5 #[39, 46, 53, 60, 67, 74], 39) := by decide +kernel
theorem d_M_message_64 : decode c_M_message 64 = .ok (.aload_n 0, 1) := by decide +kernel
theorem d_M_message_65 : decode c_M_message 65 = .ok (.getfield 56, 3) := by decide +kernel
theorem d_M_message_68 : decode c_M_message 68 = .ok (.iload_n 1, 1) := by decide +kernel
theorem d_M_message_69 : decode c_M_message 69 = .ok (.iaload, 1) := by decide +kernel
theorem d_M_message_70 : decode c_M_message 70 = .ok (.ireturn, 1) := by decide +kernel
theorem d_M_message_71 : decode c_M_message 71 = .ok (.aload_n 0, 1) := by decide +kernel
theorem d_M_message_72 : decode c_M_message 72 = .ok (.getfield 59, 3) := by decide +kernel
theorem d_M_message_75 : decode c_M_message 75 = .ok (.iload_n 1, 1) := by decide +kernel
theorem d_M_message_76 : decode c_M_message 76 = .ok (.iaload, 1) := by decide +kernel
theorem d_M_message_77 : decode c_M_message 77 = .ok (.ireturn, 1) := by decide +kernel
theorem d_M_message_78 : decode c_M_message 78 = .ok (.aload_n 0, 1) := by decide +kernel
theorem d_M_message_79 : decode c_M_message 79 = .ok (.getfield 62, 3) := by decide +kernel
theorem d_M_message_82 : decode c_M_message 82 = .ok (.iload_n 1, 1) := by decide +kernel
theorem d_M_message_83 : decode c_M_message 83 = .ok (.iaload, 1) := by decide +kernel
theorem d_M_message_84 : decode c_M_message 84 = .ok (.ireturn, 1) := by decide +kernel
theorem d_M_message_85 : decode c_M_message 85 = .ok (.aload_n 0, 1) := by decide +kernel
theorem d_M_message_86 : decode c_M_message 86 = .ok (.getfield 65, 3) := by decide +kernel
theorem d_M_message_89 : decode c_M_message 89 = .ok (.iload_n 1, 1) := by decide +kernel
theorem d_M_message_90 : decode c_M_message 90 = .ok (.iaload, 1) := by decide +kernel
theorem d_M_message_91 : decode c_M_message 91 = .ok (.ireturn, 1) := by decide +kernel
theorem d_M_message_92 : decode c_M_message 92 = .ok (.aload_n 0, 1) := by decide +kernel
theorem d_M_message_93 : decode c_M_message 93 = .ok (.getfield 68, 3) := by decide +kernel
theorem d_M_message_96 : decode c_M_message 96 = .ok (.iload_n 1, 1) := by decide +kernel
theorem d_M_message_97 : decode c_M_message 97 = .ok (.iaload, 1) := by decide +kernel
theorem d_M_message_98 : decode c_M_message 98 = .ok (.ireturn, 1) := by decide +kernel
theorem d_M_message_99 : decode c_M_message 99 = .ok (.aload_n 0, 1) := by decide +kernel
theorem d_M_message_100 : decode c_M_message 100 = .ok (.getfield 71, 3) := by decide +kernel
theorem d_M_message_103 : decode c_M_message 103 = .ok (.iload_n 1, 1) := by decide +kernel
theorem d_M_message_104 : decode c_M_message 104 = .ok (.iaload, 1) := by decide +kernel
theorem d_M_message_105 : decode c_M_message 105 = .ok (.ireturn, 1) := by decide +kernel
theorem d_M_message_106 : decode c_M_message 106 = .ok (.iconst (-1), 1) := by decide +kernel
theorem d_M_message_107 : decode c_M_message 107 = .ok (.ireturn, 1) := by decide +kernel
theorem d_M_carried_0 : decode c_M_carried 0 = .ok (.iload_n 1, 1) := by decide +kernel
theorem d_M_carried_1 : decode c_M_carried 1 = .ok (.ifCond .lt 11, 3) := by decide +kernel
theorem d_M_carried_4 : decode c_M_carried 4 = .ok (.iload_n 1, 1) := by decide +kernel
theorem d_M_carried_5 : decode c_M_carried 5 = .ok (.aload_n 0, 1) := by decide +kernel
theorem d_M_carried_6 : decode c_M_carried 6 = .ok (.getfield 81, 3) := by decide +kernel
theorem d_M_carried_9 : decode c_M_carried 9 = .ok (.if_icmp .lt 7, 3) := by decide +kernel
theorem d_M_carried_12 : decode c_M_carried 12 = .ok (.iconst 0, 1) := by decide +kernel
theorem d_M_carried_13 : decode c_M_carried 13 = .ok (.goto 9, 3) := by decide +kernel
theorem d_M_carried_16 : decode c_M_carried 16 = .ok (.aload_n 0, 1) := by decide +kernel
theorem d_M_carried_17 : decode c_M_carried 17 = .ok (.getfield 74, 3) := by decide +kernel
theorem d_M_carried_20 : decode c_M_carried 20 = .ok (.iload_n 1, 1) := by decide +kernel
theorem d_M_carried_21 : decode c_M_carried 21 = .ok (.iaload, 1) := by decide +kernel
theorem d_M_carried_22 : decode c_M_carried 22 = .ok (.ireturn, 1) := by decide +kernel
theorem d_M_state_0 : decode c_M_state 0 = .ok (.iload_n 1, 1) := by decide +kernel
theorem d_M_state_1 : decode c_M_state 1 = .ok (.invokestatic 139, 3) := by decide +kernel
theorem d_M_state_4 : decode c_M_state 4 = .ok (.ifCond .eq 23, 3) := by decide +kernel
theorem d_M_state_7 : decode c_M_state 7 = .ok (.iload_n 2, 1) := by decide +kernel
theorem d_M_state_8 : decode c_M_state 8 = .ok (.invokestatic 139, 3) := by decide +kernel
theorem d_M_state_11 : decode c_M_state 11 = .ok (.ifCond .eq 16, 3) := by decide +kernel
theorem d_M_state_14 : decode c_M_state 14 = .ok (.aload_n 0, 1) := by decide +kernel
theorem d_M_state_15 : decode c_M_state 15 = .ok (.getfield 7, 3) := by decide +kernel
theorem d_M_state_18 : decode c_M_state 18 = .ok (.iconst 4, 1) := by decide +kernel
theorem d_M_state_19 : decode c_M_state 19 = .ok (.iload_n 1, 1) := by decide +kernel
theorem d_M_state_20 : decode c_M_state 20 = .ok (.imul, 1) := by decide +kernel
theorem d_M_state_21 : decode c_M_state 21 = .ok (.iload_n 2, 1) := by decide +kernel
theorem d_M_state_22 : decode c_M_state 22 = .ok (.iadd, 1) := by decide +kernel
theorem d_M_state_23 : decode c_M_state 23 = .ok (.iaload, 1) := by decide +kernel
theorem d_M_state_24 : decode c_M_state 24 = .ok (.goto 4, 3) := by decide +kernel
theorem d_M_state_27 : decode c_M_state 27 = .ok (.iconst (-1), 1) := by decide +kernel
theorem d_M_state_28 : decode c_M_state 28 = .ok (.ireturn, 1) := by decide +kernel
theorem d_M_value_0 : decode c_M_value 0 = .ok (.iload_n 1, 1) := by decide +kernel
theorem d_M_value_1 : decode c_M_value 1 = .ok (.invokestatic 139, 3) := by decide +kernel
theorem d_M_value_4 : decode c_M_value 4 = .ok (.ifCond .eq 10, 3) := by decide +kernel
theorem d_M_value_7 : decode c_M_value 7 = .ok (.iload_n 2, 1) := by decide +kernel
theorem d_M_value_8 : decode c_M_value 8 = .ok (.invokestatic 139, 3) := by decide +kernel
theorem d_M_value_11 : decode c_M_value 11 = .ok (.ifCond .ne 5, 3) := by decide +kernel
theorem d_M_value_14 : decode c_M_value 14 = .ok (.iconst 0, 1) := by decide +kernel
theorem d_M_value_15 : decode c_M_value 15 = .ok (.ireturn, 1) := by decide +kernel
theorem d_M_value_16 : decode c_M_value 16 = .ok (.aload_n 0, 1) := by decide +kernel
theorem d_M_value_17 : decode c_M_value 17 = .ok (.getfield 7, 3) := by decide +kernel
theorem d_M_value_20 : decode c_M_value 20 = .ok (.iconst 4, 1) := by decide +kernel
theorem d_M_value_21 : decode c_M_value 21 = .ok (.iload_n 1, 1) := by decide +kernel
theorem d_M_value_22 : decode c_M_value 22 = .ok (.imul, 1) := by decide +kernel
theorem d_M_value_23 : decode c_M_value 23 = .ok (.iload_n 2, 1) := by decide +kernel
theorem d_M_value_24 : decode c_M_value 24 = .ok (.iadd, 1) := by decide +kernel
theorem d_M_value_25 : decode c_M_value 25 = .ok (.iaload, 1) := by decide +kernel
theorem d_M_value_26 : decode c_M_value 26 = .ok (.istore_n 3, 1) := by decide +kernel
theorem d_M_value_27 : decode c_M_value 27 = .ok (.iload_n 3, 1) := by decide +kernel
theorem d_M_value_28 : decode c_M_value 28 = .ok (.ifCond .eq 19, 3) := by decide +kernel
theorem d_M_value_31 : decode c_M_value 31 = .ok (.iload_n 3, 1) := by decide +kernel
theorem d_M_value_32 : decode c_M_value 32 = .ok (.iconst 4, 1) := by decide +kernel
theorem d_M_value_33 : decode c_M_value 33 = .ok (.if_icmp .eq 14, 3) := by decide +kernel
theorem d_M_value_36 : decode c_M_value 36 = .ok (.iload_n 3, 1) := by decide +kernel
theorem d_M_value_37 : decode c_M_value 37 = .ok (.iconst 5, 1) := by decide +kernel
theorem d_M_value_38 : decode c_M_value 38 = .ok (.if_icmp .eq 9, 3) := by decide +kernel
theorem d_M_value_41 : decode c_M_value 41 = .ok (.iload_n 3, 1) := by decide +kernel
theorem d_M_value_42 : decode c_M_value 42 = .ok (.bipush 12, 2) := by decide +kernel
theorem d_M_value_44 : decode c_M_value 44 = .ok (.if_icmp .ne 7, 3) := by decide +kernel
theorem d_M_value_47 : decode c_M_value 47 = .ok (.iconst 0, 1) := by decide +kernel
theorem d_M_value_48 : decode c_M_value 48 = .ok (.goto 13, 3) := by decide +kernel
theorem d_M_value_51 : decode c_M_value 51 = .ok (.aload_n 0, 1) := by decide +kernel
theorem d_M_value_52 : decode c_M_value 52 = .ok (.getfield 13, 3) := by decide +kernel
theorem d_M_value_55 : decode c_M_value 55 = .ok (.iconst 4, 1) := by decide +kernel
theorem d_M_value_56 : decode c_M_value 56 = .ok (.iload_n 1, 1) := by decide +kernel
theorem d_M_value_57 : decode c_M_value 57 = .ok (.imul, 1) := by decide +kernel
theorem d_M_value_58 : decode c_M_value 58 = .ok (.iload_n 2, 1) := by decide +kernel
theorem d_M_value_59 : decode c_M_value 59 = .ok (.iadd, 1) := by decide +kernel
theorem d_M_value_60 : decode c_M_value 60 = .ok (.iaload, 1) := by decide +kernel
theorem d_M_value_61 : decode c_M_value 61 = .ok (.ireturn, 1) := by decide +kernel
theorem d_M_due_0 : decode c_M_due 0 = .ok (.iload_n 1, 1) := by decide +kernel
theorem d_M_due_1 : decode c_M_due 1 = .ok (.invokestatic 139, 3) := by decide +kernel
theorem d_M_due_4 : decode c_M_due 4 = .ok (.ifCond .eq 10, 3) := by decide +kernel
theorem d_M_due_7 : decode c_M_due 7 = .ok (.iload_n 2, 1) := by decide +kernel
theorem d_M_due_8 : decode c_M_due 8 = .ok (.invokestatic 139, 3) := by decide +kernel
theorem d_M_due_11 : decode c_M_due 11 = .ok (.ifCond .ne 5, 3) := by decide +kernel
theorem d_M_due_14 : decode c_M_due 14 = .ok (.iconst (-1), 1) := by decide +kernel
theorem d_M_due_15 : decode c_M_due 15 = .ok (.ireturn, 1) := by decide +kernel
theorem d_M_due_16 : decode c_M_due 16 = .ok (.iconst 4, 1) := by decide +kernel
theorem d_M_due_17 : decode c_M_due 17 = .ok (.iload_n 1, 1) := by decide +kernel
theorem d_M_due_18 : decode c_M_due 18 = .ok (.imul, 1) := by decide +kernel
theorem d_M_due_19 : decode c_M_due 19 = .ok (.iload_n 2, 1) := by decide +kernel
theorem d_M_due_20 : decode c_M_due 20 = .ok (.iadd, 1) := by decide +kernel
theorem d_M_due_21 : decode c_M_due 21 = .ok (.istore_n 3, 1) := by decide +kernel
theorem d_M_due_22 : decode c_M_due 22 = .ok (.aload_n 0, 1) := by decide +kernel
theorem d_M_due_23 : decode c_M_due 23 = .ok (.getfield 7, 3) := by decide +kernel
theorem d_M_due_26 : decode c_M_due 26 = .ok (.iload_n 3, 1) := by decide +kernel
theorem d_M_due_27 : decode c_M_due 27 = .ok (.iaload, 1) := by decide +kernel
theorem d_M_due_28 : decode c_M_due 28 = .ok (.istore 4, 2) := by decide +kernel
theorem d_M_due_30 : decode c_M_due 30 = .ok (.iload 4, 2) := by decide +kernel
theorem d_M_due_32 : decode c_M_due 32 = .ok (.bipush 6, 2) := by decide +kernel
theorem d_M_due_34 : decode c_M_due 34 = .ok (.if_icmp .eq 10, 3) := by decide +kernel
theorem d_M_due_37 : decode c_M_due 37 = .ok (.iload 4, 2) := by decide +kernel
theorem d_M_due_39 : decode c_M_due 39 = .ok (.bipush 8, 2) := by decide +kernel
theorem d_M_due_41 : decode c_M_due 41 = .ok (.if_icmp .ne 19, 3) := by decide +kernel
theorem d_M_due_44 : decode c_M_due 44 = .ok (.aload_n 0, 1) := by decide +kernel
theorem d_M_due_45 : decode c_M_due 45 = .ok (.getfield 16, 3) := by decide +kernel
theorem d_M_due_48 : decode c_M_due 48 = .ok (.iload_n 3, 1) := by decide +kernel
theorem d_M_due_49 : decode c_M_due 49 = .ok (.iaload, 1) := by decide +kernel
theorem d_M_due_50 : decode c_M_due 50 = .ok (.aload_n 0, 1) := by decide +kernel
theorem d_M_due_51 : decode c_M_due 51 = .ok (.getfield 19, 3) := by decide +kernel
theorem d_M_due_54 : decode c_M_due 54 = .ok (.iload_n 3, 1) := by decide +kernel
theorem d_M_due_55 : decode c_M_due 55 = .ok (.iaload, 1) := by decide +kernel
theorem d_M_due_56 : decode c_M_due 56 = .ok (.isub, 1) := by decide +kernel
theorem d_M_due_57 : decode c_M_due 57 = .ok (.goto 27, 3) := by decide +kernel
theorem d_M_due_60 : decode c_M_due 60 = .ok (.iload 4, 2) := by decide +kernel
theorem d_M_due_62 : decode c_M_due 62 = .ok (.iconst 5, 1) := by decide +kernel
theorem d_M_due_63 : decode c_M_due 63 = .ok (.if_icmp .eq 10, 3) := by decide +kernel
theorem d_M_due_66 : decode c_M_due 66 = .ok (.iload 4, 2) := by decide +kernel
theorem d_M_due_68 : decode c_M_due 68 = .ok (.bipush 7, 2) := by decide +kernel
theorem d_M_due_70 : decode c_M_due 70 = .ok (.if_icmp .ne 13, 3) := by decide +kernel
theorem d_M_due_73 : decode c_M_due 73 = .ok (.aload_n 0, 1) := by decide +kernel
theorem d_M_due_74 : decode c_M_due 74 = .ok (.getfield 19, 3) := by decide +kernel
theorem d_M_due_77 : decode c_M_due 77 = .ok (.iload_n 3, 1) := by decide +kernel
theorem d_M_due_78 : decode c_M_due 78 = .ok (.iaload, 1) := by decide +kernel
theorem d_M_due_79 : decode c_M_due 79 = .ok (.ineg, 1) := by decide +kernel
theorem d_M_due_80 : decode c_M_due 80 = .ok (.goto 4, 3) := by decide +kernel
theorem d_M_due_83 : decode c_M_due 83 = .ok (.iconst 0, 1) := by decide +kernel
theorem d_M_due_84 : decode c_M_due 84 = .ok (.ireturn, 1) := by decide +kernel
theorem d_M_home_0 : decode c_M_home 0 = .ok (.iload_n 1, 1) := by decide +kernel
theorem d_M_home_1 : decode c_M_home 1 = .ok (.invokestatic 139, 3) := by decide +kernel
theorem d_M_home_4 : decode c_M_home 4 = .ok (.ifCond .ne 5, 3) := by decide +kernel
theorem d_M_home_7 : decode c_M_home 7 = .ok (.iconst (-1), 1) := by decide +kernel
theorem d_M_home_8 : decode c_M_home 8 = .ok (.ireturn, 1) := by decide +kernel
theorem d_M_home_9 : decode c_M_home 9 = .ok (.aload_n 0, 1) := by decide +kernel
theorem d_M_home_10 : decode c_M_home 10 = .ok (.getfield 44, 3) := by decide +kernel
theorem d_M_home_13 : decode c_M_home 13 = .ok (.iload_n 1, 1) := by decide +kernel
theorem d_M_home_14 : decode c_M_home 14 = .ok (.iaload, 1) := by decide +kernel
theorem d_M_home_15 : decode c_M_home 15 = .ok (.iconst 2, 1) := by decide +kernel
theorem d_M_home_16 : decode c_M_home 16 = .ok (.if_icmp .ne 14, 3) := by decide +kernel
theorem d_M_home_19 : decode c_M_home 19 = .ok (.aload_n 0, 1) := by decide +kernel
theorem d_M_home_20 : decode c_M_home 20 = .ok (.getfield 47, 3) := by decide +kernel
theorem d_M_home_23 : decode c_M_home 23 = .ok (.iload_n 1, 1) := by decide +kernel
theorem d_M_home_24 : decode c_M_home 24 = .ok (.iaload, 1) := by decide +kernel
theorem d_M_home_25 : decode c_M_home 25 = .ok (.iconst 1, 1) := by decide +kernel
theorem d_M_home_26 : decode c_M_home 26 = .ok (.iadd, 1) := by decide +kernel
theorem d_M_home_27 : decode c_M_home 27 = .ok (.goto 4, 3) := by decide +kernel
theorem d_M_home_30 : decode c_M_home 30 = .ok (.iconst 0, 1) := by decide +kernel
theorem d_M_home_31 : decode c_M_home 31 = .ok (.istore_n 2, 1) := by decide +kernel
theorem d_M_home_32 : decode c_M_home 32 = .ok (.aload_n 0, 1) := by decide +kernel
theorem d_M_home_33 : decode c_M_home 33 = .ok (.getfield 44, 3) := by decide +kernel
theorem d_M_home_36 : decode c_M_home 36 = .ok (.iload_n 1, 1) := by decide +kernel
theorem d_M_home_37 : decode c_M_home 37 = .ok (.iaload, 1) := by decide +kernel
theorem d_M_home_38 : decode c_M_home 38 = .ok (.iconst 4, 1) := by decide +kernel
theorem d_M_home_39 : decode c_M_home 39 = .ok (.iload_n 2, 1) := by decide +kernel
theorem d_M_home_40 : decode c_M_home 40 = .ok (.imul, 1) := by decide +kernel
theorem d_M_home_41 : decode c_M_home 41 = .ok (.iadd, 1) := by decide +kernel
theorem d_M_home_42 : decode c_M_home 42 = .ok (.bipush 32, 2) := by decide +kernel
theorem d_M_home_44 : decode c_M_home 44 = .ok (.aload_n 0, 1) := by decide +kernel
theorem d_M_home_45 : decode c_M_home 45 = .ok (.getfield 50, 3) := by decide +kernel
theorem d_M_home_48 : decode c_M_home 48 = .ok (.iload_n 1, 1) := by decide +kernel
theorem d_M_home_49 : decode c_M_home 49 = .ok (.iaload, 1) := by decide +kernel
theorem d_M_home_50 : decode c_M_home 50 = .ok (.imul, 1) := by decide +kernel
theorem d_M_home_51 : decode c_M_home 51 = .ok (.iadd, 1) := by decide +kernel
theorem d_M_home_52 : decode c_M_home 52 = .ok (.ireturn, 1) := by decide +kernel
theorem d_M_memory_0 : decode c_M_memory 0 = .ok (.iload_n 1, 1) := by decide +kernel
theorem d_M_memory_1 : decode c_M_memory 1 = .ok (.invokestatic 139, 3) := by decide +kernel
theorem d_M_memory_4 : decode c_M_memory 4 = .ok (.ifCond .eq 12, 3) := by decide +kernel
theorem d_M_memory_7 : decode c_M_memory 7 = .ok (.aload_n 0, 1) := by decide +kernel
theorem d_M_memory_8 : decode c_M_memory 8 = .ok (.getfield 53, 3) := by decide +kernel
theorem d_M_memory_11 : decode c_M_memory 11 = .ok (.iload_n 1, 1) := by decide +kernel
theorem d_M_memory_12 : decode c_M_memory 12 = .ok (.iaload, 1) := by decide +kernel
theorem d_M_memory_13 : decode c_M_memory 13 = .ok (.goto 4, 3) := by decide +kernel
theorem d_M_memory_16 : decode c_M_memory 16 = .ok (.iconst 0, 1) := by decide +kernel
theorem d_M_memory_17 : decode c_M_memory 17 = .ok (.ireturn, 1) := by decide +kernel
theorem d_M_waits_0 : decode c_M_waits 0 = .ok (.iload_n 1, 1) := by decide +kernel
theorem d_M_waits_1 : decode c_M_waits 1 = .ok (.invokestatic 139, 3) := by decide +kernel
theorem d_M_waits_4 : decode c_M_waits 4 = .ok (.ifCond .eq 16, 3) := by decide +kernel
theorem d_M_waits_7 : decode c_M_waits 7 = .ok (.aload_n 0, 1) := by decide +kernel
theorem d_M_waits_8 : decode c_M_waits 8 = .ok (.getfield 25, 3) := by decide +kernel
theorem d_M_waits_11 : decode c_M_waits 11 = .ok (.iload_n 1, 1) := by decide +kernel
theorem d_M_waits_12 : decode c_M_waits 12 = .ok (.baload, 1) := by decide +kernel
theorem d_M_waits_13 : decode c_M_waits 13 = .ok (.ifCond .eq 7, 3) := by decide +kernel
theorem d_M_waits_16 : decode c_M_waits 16 = .ok (.iconst 1, 1) := by decide +kernel
theorem d_M_waits_17 : decode c_M_waits 17 = .ok (.goto 4, 3) := by decide +kernel
theorem d_M_waits_20 : decode c_M_waits 20 = .ok (.iconst 0, 1) := by decide +kernel
theorem d_M_waits_21 : decode c_M_waits 21 = .ok (.ireturn, 1) := by decide +kernel
theorem d_M_done_0 : decode c_M_done 0 = .ok (.iload_n 1, 1) := by decide +kernel
theorem d_M_done_1 : decode c_M_done 1 = .ok (.invokestatic 139, 3) := by decide +kernel
theorem d_M_done_4 : decode c_M_done 4 = .ok (.ifCond .eq 12, 3) := by decide +kernel
theorem d_M_done_7 : decode c_M_done 7 = .ok (.aload_n 0, 1) := by decide +kernel
theorem d_M_done_8 : decode c_M_done 8 = .ok (.getfield 38, 3) := by decide +kernel
theorem d_M_done_11 : decode c_M_done 11 = .ok (.iload_n 1, 1) := by decide +kernel
theorem d_M_done_12 : decode c_M_done 12 = .ok (.iaload, 1) := by decide +kernel
theorem d_M_done_13 : decode c_M_done 13 = .ok (.goto 4, 3) := by decide +kernel
theorem d_M_done_16 : decode c_M_done 16 = .ok (.iconst (-1), 1) := by decide +kernel
theorem d_M_done_17 : decode c_M_done 17 = .ok (.ireturn, 1) := by decide +kernel
theorem d_M_result_0 : decode c_M_result 0 = .ok (.iload_n 1, 1) := by decide +kernel
theorem d_M_result_1 : decode c_M_result 1 = .ok (.invokestatic 139, 3) := by decide +kernel
theorem d_M_result_4 : decode c_M_result 4 = .ok (.ifCond .eq 12, 3) := by decide +kernel
theorem d_M_result_7 : decode c_M_result 7 = .ok (.aload_n 0, 1) := by decide +kernel
theorem d_M_result_8 : decode c_M_result 8 = .ok (.getfield 41, 3) := by decide +kernel
theorem d_M_result_11 : decode c_M_result 11 = .ok (.iload_n 1, 1) := by decide +kernel
theorem d_M_result_12 : decode c_M_result 12 = .ok (.iaload, 1) := by decide +kernel
theorem d_M_result_13 : decode c_M_result 13 = .ok (.goto 4, 3) := by decide +kernel
theorem d_M_result_16 : decode c_M_result 16 = .ok (.iconst 0, 1) := by decide +kernel
theorem d_M_result_17 : decode c_M_result 17 = .ok (.ireturn, 1) := by decide +kernel
theorem d_M_tally_0 : decode c_M_tally 0 = .ok (.iload_n 1, 1) := by decide +kernel
theorem d_M_tally_1 : decode c_M_tally 1 = .ok (.invokestatic 139, 3) := by decide +kernel
theorem d_M_tally_4 : decode c_M_tally 4 = .ok (.ifCond .eq 23, 3) := by decide +kernel
theorem d_M_tally_7 : decode c_M_tally 7 = .ok (.iload_n 2, 1) := by decide +kernel
theorem d_M_tally_8 : decode c_M_tally 8 = .ok (.invokestatic 139, 3) := by decide +kernel
theorem d_M_tally_11 : decode c_M_tally 11 = .ok (.ifCond .eq 16, 3) := by decide +kernel
theorem d_M_tally_14 : decode c_M_tally 14 = .ok (.aload_n 0, 1) := by decide +kernel
theorem d_M_tally_15 : decode c_M_tally 15 = .ok (.getfield 22, 3) := by decide +kernel
theorem d_M_tally_18 : decode c_M_tally 18 = .ok (.iconst 4, 1) := by decide +kernel
theorem d_M_tally_19 : decode c_M_tally 19 = .ok (.iload_n 1, 1) := by decide +kernel
theorem d_M_tally_20 : decode c_M_tally 20 = .ok (.imul, 1) := by decide +kernel
theorem d_M_tally_21 : decode c_M_tally 21 = .ok (.iload_n 2, 1) := by decide +kernel
theorem d_M_tally_22 : decode c_M_tally 22 = .ok (.iadd, 1) := by decide +kernel
theorem d_M_tally_23 : decode c_M_tally 23 = .ok (.iaload, 1) := by decide +kernel
theorem d_M_tally_24 : decode c_M_tally 24 = .ok (.goto 4, 3) := by decide +kernel
theorem d_M_tally_27 : decode c_M_tally 27 = .ok (.iconst (-1), 1) := by decide +kernel
theorem d_M_tally_28 : decode c_M_tally 28 = .ok (.ireturn, 1) := by decide +kernel
theorem d_M_run_0 : decode c_M_run 0 = .ok (.iload_n 1, 1) := by decide +kernel
theorem d_M_run_1 : decode c_M_run 1 = .ok (.iconst 1, 1) := by decide +kernel
theorem d_M_run_2 : decode c_M_run 2 = .ok (.if_icmp .lt 9, 3) := by decide +kernel
theorem d_M_run_5 : decode c_M_run 5 = .ok (.iload_n 1, 1) := by decide +kernel
theorem d_M_run_6 : decode c_M_run 6 = .ok (.bipush 64, 2) := by decide +kernel
theorem d_M_run_8 : decode c_M_run 8 = .ok (.if_icmp .le 7, 3) := by decide +kernel
theorem d_M_run_11 : decode c_M_run 11 = .ok (.iconst 0, 1) := by decide +kernel
theorem d_M_run_12 : decode c_M_run 12 = .ok (.goto 4, 3) := by decide +kernel
theorem d_M_run_15 : decode c_M_run 15 = .ok (.iload_n 1, 1) := by decide +kernel
theorem d_M_run_16 : decode c_M_run 16 = .ok (.istore_n 2, 1) := by decide +kernel
theorem d_M_run_17 : decode c_M_run 17 = .ok (.iconst 0, 1) := by decide +kernel
theorem d_M_run_18 : decode c_M_run 18 = .ok (.istore_n 3, 1) := by decide +kernel
theorem d_M_run_19 : decode c_M_run 19 = .ok (.iconst 1, 1) := by decide +kernel
theorem d_M_run_20 : decode c_M_run 20 = .ok (.istore 4, 2) := by decide +kernel
theorem d_M_run_22 : decode c_M_run 22 = .ok (.iload_n 3, 1) := by decide +kernel
theorem d_M_run_23 : decode c_M_run 23 = .ok (.iload_n 2, 1) := by decide +kernel
theorem d_M_run_24 : decode c_M_run 24 = .ok (.if_icmp .ge 62, 3) := by decide +kernel
theorem d_M_run_27 : decode c_M_run 27 = .ok (.iload 4, 2) := by decide +kernel
theorem d_M_run_29 : decode c_M_run 29 = .ok (.ifCond .eq 57, 3) := by decide +kernel
theorem d_M_run_32 : decode c_M_run 32 = .ok (.iconst 0, 1) := by decide +kernel
theorem d_M_run_33 : decode c_M_run 33 = .ok (.istore 4, 2) := by decide +kernel
theorem d_M_run_35 : decode c_M_run 35 = .ok (.iconst 0, 1) := by decide +kernel
theorem d_M_run_36 : decode c_M_run 36 = .ok (.istore 5, 2) := by decide +kernel
theorem d_M_run_38 : decode c_M_run 38 = .ok (.iload 5, 2) := by decide +kernel
theorem d_M_run_40 : decode c_M_run 40 = .ok (.aload_n 0, 1) := by decide +kernel
theorem d_M_run_41 : decode c_M_run 41 = .ok (.getfield 81, 3) := by decide +kernel
theorem d_M_run_44 : decode c_M_run 44 = .ok (.if_icmp .ge 31, 3) := by decide +kernel
theorem d_M_run_47 : decode c_M_run 47 = .ok (.iload 4, 2) := by decide +kernel
theorem d_M_run_49 : decode c_M_run 49 = .ok (.ifCond .ne 26, 3) := by decide +kernel
theorem d_M_run_52 : decode c_M_run 52 = .ok (.aload_n 0, 1) := by decide +kernel
theorem d_M_run_53 : decode c_M_run 53 = .ok (.iload 5, 2) := by decide +kernel
theorem d_M_run_55 : decode c_M_run 55 = .ok (.invokevirtual 146, 3) := by decide +kernel
theorem d_M_run_58 : decode c_M_run 58 = .ok (.iconst 2, 1) := by decide +kernel
theorem d_M_run_59 : decode c_M_run 59 = .ok (.if_icmp .ne 7, 3) := by decide +kernel
theorem d_M_run_62 : decode c_M_run 62 = .ok (.iconst 1, 1) := by decide +kernel
theorem d_M_run_63 : decode c_M_run 63 = .ok (.goto 4, 3) := by decide +kernel
theorem d_M_run_66 : decode c_M_run 66 = .ok (.iconst 0, 1) := by decide +kernel
theorem d_M_run_67 : decode c_M_run 67 = .ok (.istore 4, 2) := by decide +kernel
theorem d_M_run_69 : decode c_M_run 69 = .ok (.iinc 5 1, 3) := by decide +kernel
theorem d_M_run_72 : decode c_M_run 72 = .ok (.goto (-34), 3) := by decide +kernel
theorem d_M_run_75 : decode c_M_run 75 = .ok (.iload 4, 2) := by decide +kernel
theorem d_M_run_77 : decode c_M_run 77 = .ok (.ifCond .eq (-55), 3) := by decide +kernel
theorem d_M_run_80 : decode c_M_run 80 = .ok (.iinc 3 1, 3) := by decide +kernel
theorem d_M_run_83 : decode c_M_run 83 = .ok (.goto (-61), 3) := by decide +kernel
theorem d_M_run_86 : decode c_M_run 86 = .ok (.iload_n 3, 1) := by decide +kernel
theorem d_M_run_87 : decode c_M_run 87 = .ok (.ireturn, 1) := by decide +kernel
