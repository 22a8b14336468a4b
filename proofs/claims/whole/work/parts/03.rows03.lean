theorem dX3_bitsFrom_3 : decode cX3_bitsFrom 3 = .ok (.lconst 1, 1) := by decide +kernel
theorem dX3_bitsFrom_4 : decode cX3_bitsFrom 4 = .ok (.lsub, 1) := by decide +kernel
theorem dX3_bitsFrom_5 : decode cX3_bitsFrom 5 = .ok (.iload_n 0, 1) := by decide +kernel
theorem dX3_bitsFrom_6 : decode cX3_bitsFrom 6 = .ok (.lshl, 1) := by decide +kernel
theorem dX3_bitsFrom_7 : decode cX3_bitsFrom 7 = .ok (.lreturn, 1) := by decide +kernel
theorem dX4_init_0 : decode cX4_init 0 = .ok (.aload_n 0, 1) := by decide +kernel
theorem dX4_init_1 : decode cX4_init 1 = .ok (.invokespecial 1, 3) := by decide +kernel
theorem dX4_init_4 : decode cX4_init 4 = .ok (.aload_n 0, 1) := by decide +kernel
theorem dX4_init_5 : decode cX4_init 5 = .ok (.iconst 4, 1) := by decide +kernel
theorem dX4_init_6 : decode cX4_init 6 = .ok (.newarray .int, 2) := by decide +kernel
theorem dX4_init_8 : decode cX4_init 8 = .ok (.putfield 7, 3) := by decide +kernel
theorem dX4_init_11 : decode cX4_init 11 = .ok (.aload_n 0, 1) := by decide +kernel
theorem dX4_init_12 : decode cX4_init 12 = .ok (.iconst 4, 1) := by decide +kernel
theorem dX4_init_13 : decode cX4_init 13 = .ok (.newarray .int, 2) := by decide +kernel
theorem dX4_init_15 : decode cX4_init 15 = .ok (.putfield 13, 3) := by decide +kernel
theorem dX4_init_18 : decode cX4_init 18 = .ok (.aload_n 0, 1) := by decide +kernel
theorem dX4_init_19 : decode cX4_init 19 = .ok (.bipush 16, 2) := by decide +kernel
theorem dX4_init_21 : decode cX4_init 21 = .ok (.newarray .boolean, 2) := by decide +kernel
theorem dX4_init_23 : decode cX4_init 23 = .ok (.putfield 16, 3) := by decide +kernel
theorem dX4_init_26 : decode cX4_init 26 = .ok (.aload_n 0, 1) := by decide +kernel
theorem dX4_init_27 : decode cX4_init 27 = .ok (.sipush 144, 3) := by decide +kernel
theorem dX4_init_30 : decode cX4_init 30 = .ok (.newarray .int, 2) := by decide +kernel
theorem dX4_init_32 : decode cX4_init 32 = .ok (.putfield 20, 3) := by decide +kernel
theorem dX4_init_35 : decode cX4_init 35 = .ok (.aload_n 0, 1) := by decide +kernel
theorem dX4_init_36 : decode cX4_init 36 = .ok (.iconst 4, 1) := by decide +kernel
theorem dX4_init_37 : decode cX4_init 37 = .ok (.newarray .boolean, 2) := by decide +kernel
theorem dX4_init_39 : decode cX4_init 39 = .ok (.putfield 23, 3) := by decide +kernel
theorem dX4_init_42 : decode cX4_init 42 = .ok (.aload_n 0, 1) := by decide +kernel
theorem dX4_init_43 : decode cX4_init 43 = .ok (.sipush 144, 3) := by decide +kernel
theorem dX4_init_46 : decode cX4_init 46 = .ok (.newarray .boolean, 2) := by decide +kernel
theorem dX4_init_48 : decode cX4_init 48 = .ok (.putfield 26, 3) := by decide +kernel
theorem dX4_init_51 : decode cX4_init 51 = .ok (.aload_n 0, 1) := by decide +kernel
theorem dX4_init_52 : decode cX4_init 52 = .ok (.iconst 4, 1) := by decide +kernel
theorem dX4_init_53 : decode cX4_init 53 = .ok (.newarray .int, 2) := by decide +kernel
theorem dX4_init_55 : decode cX4_init 55 = .ok (.putfield 29, 3) := by decide +kernel
theorem dX4_init_58 : decode cX4_init 58 = .ok (.aload_n 0, 1) := by decide +kernel
theorem dX4_init_59 : decode cX4_init 59 = .ok (.iconst 4, 1) := by decide +kernel
theorem dX4_init_60 : decode cX4_init 60 = .ok (.newarray .int, 2) := by decide +kernel
theorem dX4_init_62 : decode cX4_init 62 = .ok (.putfield 32, 3) := by decide +kernel
theorem dX4_init_65 : decode cX4_init 65 = .ok (.aload_n 0, 1) := by decide +kernel
theorem dX4_init_66 : decode cX4_init 66 = .ok (.iconst 4, 1) := by decide +kernel
theorem dX4_init_67 : decode cX4_init 67 = .ok (.newarray .int, 2) := by decide +kernel
theorem dX4_init_69 : decode cX4_init 69 = .ok (.putfield 35, 3) := by decide +kernel
theorem dX4_init_72 : decode cX4_init 72 = .ok (.aload_n 0, 1) := by decide +kernel
theorem dX4_init_73 : decode cX4_init 73 = .ok (.iconst 4, 1) := by decide +kernel
theorem dX4_init_74 : decode cX4_init 74 = .ok (.newarray .int, 2) := by decide +kernel
theorem dX4_init_76 : decode cX4_init 76 = .ok (.putfield 38, 3) := by decide +kernel
theorem dX4_init_79 : decode cX4_init 79 = .ok (.aload_n 0, 1) := by decide +kernel
theorem dX4_init_80 : decode cX4_init 80 = .ok (.iconst 4, 1) := by decide +kernel
theorem dX4_init_81 : decode cX4_init 81 = .ok (.newarray .int, 2) := by decide +kernel
theorem dX4_init_83 : decode cX4_init 83 = .ok (.putfield 41, 3) := by decide +kernel
theorem dX4_init_86 : decode cX4_init 86 = .ok (.aload_n 0, 1) := by decide +kernel
theorem dX4_init_87 : decode cX4_init 87 = .ok (.iconst 4, 1) := by decide +kernel
theorem dX4_init_88 : decode cX4_init 88 = .ok (.newarray .int, 2) := by decide +kernel
theorem dX4_init_90 : decode cX4_init 90 = .ok (.putfield 44, 3) := by decide +kernel
theorem dX4_init_93 : decode cX4_init 93 = .ok (.aload_n 0, 1) := by decide +kernel
theorem dX4_init_94 : decode cX4_init 94 = .ok (.iconst 4, 1) := by decide +kernel
theorem dX4_init_95 : decode cX4_init 95 = .ok (.newarray .int, 2) := by decide +kernel
theorem dX4_init_97 : decode cX4_init 97 = .ok (.putfield 47, 3) := by decide +kernel
theorem dX4_init_100 : decode cX4_init 100 = .ok (.aload_n 0, 1) := by decide +kernel
theorem dX4_init_101 : decode cX4_init 101 = .ok (.iconst 4, 1) := by decide +kernel
theorem dX4_init_102 : decode cX4_init 102 = .ok (.newarray .int, 2) := by decide +kernel
theorem dX4_init_104 : decode cX4_init 104 = .ok (.putfield 50, 3) := by decide +kernel
theorem dX4_init_107 : decode cX4_init 107 = .ok (.aload_n 0, 1) := by decide +kernel
theorem dX4_init_108 : decode cX4_init 108 = .ok (.iconst 4, 1) := by decide +kernel
theorem dX4_init_109 : decode cX4_init 109 = .ok (.newarray .int, 2) := by decide +kernel
theorem dX4_init_111 : decode cX4_init 111 = .ok (.putfield 53, 3) := by decide +kernel
theorem dX4_init_114 : decode cX4_init 114 = .ok (.aload_n 0, 1) := by decide +kernel
theorem dX4_init_115 : decode cX4_init 115 = .ok (.iconst 4, 1) := by decide +kernel
theorem dX4_init_116 : decode cX4_init 116 = .ok (.newarray .int, 2) := by decide +kernel
theorem dX4_init_118 : decode cX4_init 118 = .ok (.putfield 56, 3) := by decide +kernel
theorem dX4_init_121 : decode cX4_init 121 = .ok (.aload_n 0, 1) := by decide +kernel
theorem dX4_init_122 : decode cX4_init 122 = .ok (.sipush 144, 3) := by decide +kernel
theorem dX4_init_125 : decode cX4_init 125 = .ok (.newarray .boolean, 2) := by decide +kernel
theorem dX4_init_127 : decode cX4_init 127 = .ok (.putfield 59, 3) := by decide +kernel
theorem dX4_init_130 : decode cX4_init 130 = .ok (.aload_n 0, 1) := by decide +kernel
theorem dX4_init_131 : decode cX4_init 131 = .ok (.sipush 144, 3) := by decide +kernel
theorem dX4_init_134 : decode cX4_init 134 = .ok (.newarray .int, 2) := by decide +kernel
theorem dX4_init_136 : decode cX4_init 136 = .ok (.putfield 62, 3) := by decide +kernel
theorem dX4_init_139 : decode cX4_init 139 = .ok (.aload_n 0, 1) := by decide +kernel
theorem dX4_init_140 : decode cX4_init 140 = .ok (.iconst 4, 1) := by decide +kernel
theorem dX4_init_141 : decode cX4_init 141 = .ok (.newarray .boolean, 2) := by decide +kernel
theorem dX4_init_143 : decode cX4_init 143 = .ok (.putfield 65, 3) := by decide +kernel
theorem dX4_init_146 : decode cX4_init 146 = .ok (.aload_n 0, 1) := by decide +kernel
theorem dX4_init_147 : decode cX4_init 147 = .ok (.sipush 200, 3) := by decide +kernel
theorem dX4_init_150 : decode cX4_init 150 = .ok (.newarray .int, 2) := by decide +kernel
theorem dX4_init_152 : decode cX4_init 152 = .ok (.putfield 68, 3) := by decide +kernel
theorem dX4_init_155 : decode cX4_init 155 = .ok (.aload_n 0, 1) := by decide +kernel
theorem dX4_init_156 : decode cX4_init 156 = .ok (.sipush 200, 3) := by decide +kernel
theorem dX4_init_159 : decode cX4_init 159 = .ok (.newarray .int, 2) := by decide +kernel
theorem dX4_init_161 : decode cX4_init 161 = .ok (.putfield 71, 3) := by decide +kernel
theorem dX4_init_164 : decode cX4_init 164 = .ok (.aload_n 0, 1) := by decide +kernel
theorem dX4_init_165 : decode cX4_init 165 = .ok (.iload_n 1, 1) := by decide +kernel
theorem dX4_init_166 : decode cX4_init 166 = .ok (.iconst 1, 1) := by decide +kernel
theorem dX4_init_167 : decode cX4_init 167 = .ok (.if_icmp .ge 7, 3) := by decide +kernel
theorem dX4_init_170 : decode cX4_init 170 = .ok (.iconst 1, 1) := by decide +kernel
theorem dX4_init_171 : decode cX4_init 171 = .ok (.goto 15, 3) := by decide +kernel
theorem dX4_init_174 : decode cX4_init 174 = .ok (.iload_n 1, 1) := by decide +kernel
theorem dX4_init_175 : decode cX4_init 175 = .ok (.bipush 36, 2) := by decide +kernel
theorem dX4_init_177 : decode cX4_init 177 = .ok (.if_icmp .le 8, 3) := by decide +kernel
theorem dX4_init_180 : decode cX4_init 180 = .ok (.bipush 36, 2) := by decide +kernel
theorem dX4_init_182 : decode cX4_init 182 = .ok (.goto 4, 3) := by decide +kernel
theorem dX4_init_185 : decode cX4_init 185 = .ok (.iload_n 1, 1) := by decide +kernel
theorem dX4_init_186 : decode cX4_init 186 = .ok (.putfield 74, 3) := by decide +kernel
theorem dX4_init_189 : decode cX4_init 189 = .ok (.return_, 1) := by decide +kernel
theorem dX4_isIn_0 : decode cX4_isIn 0 = .ok (.iload_n 0, 1) := by decide +kernel
theorem dX4_isIn_1 : decode cX4_isIn 1 = .ok (.iload_n 1, 1) := by decide +kernel
theorem dX4_isIn_2 : decode cX4_isIn 2 = .ok (.if_icmp .lt 12, 3) := by decide +kernel
theorem dX4_isIn_5 : decode cX4_isIn 5 = .ok (.iload_n 0, 1) := by decide +kernel
theorem dX4_isIn_6 : decode cX4_isIn 6 = .ok (.iload_n 2, 1) := by decide +kernel
theorem dX4_isIn_7 : decode cX4_isIn 7 = .ok (.if_icmp .gt 7, 3) := by decide +kernel
theorem dX4_isIn_10 : decode cX4_isIn 10 = .ok (.iconst 1, 1) := by decide +kernel
theorem dX4_isIn_11 : decode cX4_isIn 11 = .ok (.goto 4, 3) := by decide +kernel
theorem dX4_isIn_14 : decode cX4_isIn 14 = .ok (.iconst 0, 1) := by decide +kernel
theorem dX4_isIn_15 : decode cX4_isIn 15 = .ok (.ireturn, 1) := by decide +kernel
theorem dX4_isWork_0 : decode cX4_isWork 0 = .ok (.iload_n 1, 1) := by decide +kernel
theorem dX4_isWork_1 : decode cX4_isWork 1 = .ok (.ifCond .lt 15, 3) := by decide +kernel
theorem dX4_isWork_4 : decode cX4_isWork 4 = .ok (.iload_n 1, 1) := by decide +kernel
theorem dX4_isWork_5 : decode cX4_isWork 5 = .ok (.aload_n 0, 1) := by decide +kernel
theorem dX4_isWork_6 : decode cX4_isWork 6 = .ok (.getfield 78, 3) := by decide +kernel
theorem dX4_isWork_9 : decode cX4_isWork 9 = .ok (.if_icmp .ge 7, 3) := by decide +kernel
theorem dX4_isWork_12 : decode cX4_isWork 12 = .ok (.iconst 1, 1) := by decide +kernel
theorem dX4_isWork_13 : decode cX4_isWork 13 = .ok (.goto 4, 3) := by decide +kernel
theorem dX4_isWork_16 : decode cX4_isWork 16 = .ok (.iconst 0, 1) := by decide +kernel
theorem dX4_isWork_17 : decode cX4_isWork 17 = .ok (.ireturn, 1) := by decide +kernel
theorem dX4_isHour_0 : decode cX4_isHour 0 = .ok (.iload_n 1, 1) := by decide +kernel
theorem dX4_isHour_1 : decode cX4_isHour 1 = .ok (.ifCond .lt 15, 3) := by decide +kernel
theorem dX4_isHour_4 : decode cX4_isHour 4 = .ok (.iload_n 1, 1) := by decide +kernel
theorem dX4_isHour_5 : decode cX4_isHour 5 = .ok (.aload_n 0, 1) := by decide +kernel
theorem dX4_isHour_6 : decode cX4_isHour 6 = .ok (.getfield 74, 3) := by decide +kernel
theorem dX4_isHour_9 : decode cX4_isHour 9 = .ok (.if_icmp .ge 7, 3) := by decide +kernel
theorem dX4_isHour_12 : decode cX4_isHour 12 = .ok (.iconst 1, 1) := by decide +kernel
theorem dX4_isHour_13 : decode cX4_isHour 13 = .ok (.goto 4, 3) := by decide +kernel
theorem dX4_isHour_16 : decode cX4_isHour 16 = .ok (.iconst 0, 1) := by decide +kernel
theorem dX4_isHour_17 : decode cX4_isHour 17 = .ok (.ireturn, 1) := by decide +kernel
theorem dX4_isFixed_0 : decode cX4_isFixed 0 = .ok (.aload_n 0, 1) := by decide +kernel
theorem dX4_isFixed_1 : decode cX4_isFixed 1 = .ok (.getfield 41, 3) := by decide +kernel
theorem dX4_isFixed_4 : decode cX4_isFixed 4 = .ok (.iload_n 1, 1) := by decide +kernel
theorem dX4_isFixed_5 : decode cX4_isFixed 5 = .ok (.iaload, 1) := by decide +kernel
theorem dX4_isFixed_6 : decode cX4_isFixed 6 = .ok (.iconst 3, 1) := by decide +kernel
theorem dX4_isFixed_7 : decode cX4_isFixed 7 = .ok (.if_icmp .eq 13, 3) := by decide +kernel
theorem dX4_isFixed_10 : decode cX4_isFixed 10 = .ok (.aload_n 0, 1) := by decide +kernel
theorem dX4_isFixed_11 : decode cX4_isFixed 11 = .ok (.getfield 41, 3) := by decide +kernel
theorem dX4_isFixed_14 : decode cX4_isFixed 14 = .ok (.iload_n 1, 1) := by decide +kernel
theorem dX4_isFixed_15 : decode cX4_isFixed 15 = .ok (.iaload, 1) := by decide +kernel
theorem dX4_isFixed_16 : decode cX4_isFixed 16 = .ok (.iconst 4, 1) := by decide +kernel
theorem dX4_isFixed_17 : decode cX4_isFixed 17 = .ok (.if_icmp .ne 7, 3) := by decide +kernel
theorem dX4_isFixed_20 : decode cX4_isFixed 20 = .ok (.iconst 1, 1) := by decide +kernel
theorem dX4_isFixed_21 : decode cX4_isFixed 21 = .ok (.goto 4, 3) := by decide +kernel
theorem dX4_isFixed_24 : decode cX4_isFixed 24 = .ok (.iconst 0, 1) := by decide +kernel
theorem dX4_isFixed_25 : decode cX4_isFixed 25 = .ok (.ireturn, 1) := by decide +kernel
set_option maxRecDepth 20000 in
theorem ggX4_work_X4_isIn : GoodIn wsX4_work wsX4_isIn := goodIn_r _ [11] (by decide +kernel) (by decide +kernel)
set_option maxRecDepth 20000 in
theorem gX4_work_X4_isIn : GoodIn wsX4_work (va_wsS RX4 81 yX4_isIn wsX4_isIn) := goodIn_app (goodIn_of _ (by decide +kernel)) ggX4_work_X4_isIn
theorem dX4_work_0 : decode cX4_work 0 = .ok (.aload_n 0, 1) := by decide +kernel
theorem dX4_work_1 : decode cX4_work 1 = .ok (.getfield 78, 3) := by decide +kernel
theorem dX4_work_4 : decode cX4_work 4 = .ok (.iconst 4, 1) := by decide +kernel
theorem dX4_work_5 : decode cX4_work 5 = .ok (.if_icmp .eq 22, 3) := by decide +kernel
theorem dX4_work_8 : decode cX4_work 8 = .ok (.iload_n 1, 1) := by decide +kernel
theorem dX4_work_9 : decode cX4_work 9 = .ok (.iconst 1, 1) := by decide +kernel
theorem dX4_work_10 : decode cX4_work 10 = .ok (.bipush 12, 2) := by decide +kernel
theorem dX4_work_12 : decode cX4_work 12 = .ok (.invokestatic 81, 3) := by decide +kernel
theorem dX4_work_15 : decode cX4_work 15 = .ok (.ifCond .eq 12, 3) := by decide +kernel
theorem dX4_work_18 : decode cX4_work 18 = .ok (.iload_n 2, 1) := by decide +kernel
theorem dX4_work_19 : decode cX4_work 19 = .ok (.iconst 0, 1) := by decide +kernel
theorem dX4_work_20 : decode cX4_work 20 = .ok (.iconst 3, 1) := by decide +kernel
theorem dX4_work_21 : decode cX4_work 21 = .ok (.invokestatic 81, 3) := by decide +kernel
theorem dX4_work_24 : decode cX4_work 24 = .ok (.ifCond .ne 5, 3) := by decide +kernel
theorem dX4_work_27 : decode cX4_work 27 = .ok (.iconst (-1), 1) := by decide +kernel
theorem dX4_work_28 : decode cX4_work 28 = .ok (.ireturn, 1) := by decide +kernel
theorem dX4_work_29 : decode cX4_work 29 = .ok (.aload_n 0, 1) := by decide +kernel
theorem dX4_work_30 : decode cX4_work 30 = .ok (.getfield 7, 3) := by decide +kernel
theorem dX4_work_33 : decode cX4_work 33 = .ok (.aload_n 0, 1) := by decide +kernel
theorem dX4_work_34 : decode cX4_work 34 = .ok (.getfield 78, 3) := by decide +kernel
theorem dX4_work_37 : decode cX4_work 37 = .ok (.iload_n 1, 1) := by decide +kernel
theorem dX4_work_38 : decode cX4_work 38 = .ok (.iastore, 1) := by decide +kernel
theorem dX4_work_39 : decode cX4_work 39 = .ok (.aload_n 0, 1) := by decide +kernel
theorem dX4_work_40 : decode cX4_work 40 = .ok (.getfield 13, 3) := by decide +kernel
theorem dX4_work_43 : decode cX4_work 43 = .ok (.aload_n 0, 1) := by decide +kernel
theorem dX4_work_44 : decode cX4_work 44 = .ok (.getfield 78, 3) := by decide +kernel
theorem dX4_work_47 : decode cX4_work 47 = .ok (.iload_n 2, 1) := by decide +kernel
theorem dX4_work_48 : decode cX4_work 48 = .ok (.iastore, 1) := by decide +kernel
theorem dX4_work_49 : decode cX4_work 49 = .ok (.aload_n 0, 1) := by decide +kernel
theorem dX4_work_50 : decode cX4_work 50 = .ok (.getfield 29, 3) := by decide +kernel
theorem dX4_work_53 : decode cX4_work 53 = .ok (.aload_n 0, 1) := by decide +kernel
theorem dX4_work_54 : decode cX4_work 54 = .ok (.getfield 78, 3) := by decide +kernel
theorem dX4_work_57 : decode cX4_work 57 = .ok (.iconst 1, 1) := by decide +kernel
theorem dX4_work_58 : decode cX4_work 58 = .ok (.iastore, 1) := by decide +kernel
theorem dX4_work_59 : decode cX4_work 59 = .ok (.aload_n 0, 1) := by decide +kernel
theorem dX4_work_60 : decode cX4_work 60 = .ok (.getfield 32, 3) := by decide +kernel
theorem dX4_work_63 : decode cX4_work 63 = .ok (.aload_n 0, 1) := by decide +kernel
theorem dX4_work_64 : decode cX4_work 64 = .ok (.getfield 78, 3) := by decide +kernel
theorem dX4_work_67 : decode cX4_work 67 = .ok (.iconst 0, 1) := by decide +kernel
theorem dX4_work_68 : decode cX4_work 68 = .ok (.iastore, 1) := by decide +kernel
theorem dX4_work_69 : decode cX4_work 69 = .ok (.aload_n 0, 1) := by decide +kernel
theorem dX4_work_70 : decode cX4_work 70 = .ok (.getfield 35, 3) := by decide +kernel
theorem dX4_work_73 : decode cX4_work 73 = .ok (.aload_n 0, 1) := by decide +kernel
theorem dX4_work_74 : decode cX4_work 74 = .ok (.getfield 78, 3) := by decide +kernel
theorem dX4_work_77 : decode cX4_work 77 = .ok (.aload_n 0, 1) := by decide +kernel
theorem dX4_work_78 : decode cX4_work 78 = .ok (.getfield 78, 3) := by decide +kernel
theorem dX4_work_81 : decode cX4_work 81 = .ok (.iastore, 1) := by decide +kernel
theorem dX4_work_82 : decode cX4_work 82 = .ok (.aload_n 0, 1) := by decide +kernel
theorem dX4_work_83 : decode cX4_work 83 = .ok (.getfield 44, 3) := by decide +kernel
theorem dX4_work_86 : decode cX4_work 86 = .ok (.aload_n 0, 1) := by decide +kernel
theorem dX4_work_87 : decode cX4_work 87 = .ok (.getfield 78, 3) := by decide +kernel
theorem dX4_work_90 : decode cX4_work 90 = .ok (.iconst (-1), 1) := by decide +kernel
theorem dX4_work_91 : decode cX4_work 91 = .ok (.iastore, 1) := by decide +kernel
theorem dX4_work_92 : decode cX4_work 92 = .ok (.aload_n 0, 1) := by decide +kernel
theorem dX4_work_93 : decode cX4_work 93 = .ok (.dup, 1) := by decide +kernel
theorem dX4_work_94 : decode cX4_work 94 = .ok (.getfield 78, 3) := by decide +kernel
theorem dX4_work_97 : decode cX4_work 97 = .ok (.iconst 1, 1) := by decide +kernel
theorem dX4_work_98 : decode cX4_work 98 = .ok (.iadd, 1) := by decide +kernel
theorem dX4_work_99 : decode cX4_work 99 = .ok (.putfield 78, 3) := by decide +kernel
theorem dX4_work_102 : decode cX4_work 102 = .ok (.aload_n 0, 1) := by decide +kernel
theorem dX4_work_103 : decode cX4_work 103 = .ok (.getfield 78, 3) := by decide +kernel
theorem dX4_work_106 : decode cX4_work 106 = .ok (.iconst 1, 1) := by decide +kernel
theorem dX4_work_107 : decode cX4_work 107 = .ok (.isub, 1) := by decide +kernel
theorem dX4_work_108 : decode cX4_work 108 = .ok (.ireturn, 1) := by decide +kernel
set_option maxRecDepth 20000 in
theorem ggX4_near_X4_isWork : GoodIn wsX4_near wsX4_isWork := goodIn_r _ [6, 7, 8, 9, 10, 11, 12, 13, 14, 15, 16, 17, 18, 19, 20, 21, 22, 23, 24, 25, 26, 27, 28, 29, 30, 31, 32] (by decide +kernel) (by decide +kernel)
set_option maxRecDepth 20000 in
theorem gX4_near_X4_isWork : GoodIn wsX4_near (wsV RX4 85 RX4 yX4_isWork wsX4_isWork) := goodIn_app (goodIn_of _ (by decide +kernel)) ggX4_near_X4_isWork
theorem dX4_near_0 : decode cX4_near 0 = .ok (.aload_n 0, 1) := by decide +kernel
theorem dX4_near_1 : decode cX4_near 1 = .ok (.iload_n 1, 1) := by decide +kernel
theorem dX4_near_2 : decode cX4_near 2 = .ok (.invokevirtual 85, 3) := by decide +kernel
theorem dX4_near_5 : decode cX4_near 5 = .ok (.ifCond .eq 16, 3) := by decide +kernel
theorem dX4_near_8 : decode cX4_near 8 = .ok (.aload_n 0, 1) := by decide +kernel
theorem dX4_near_9 : decode cX4_near 9 = .ok (.iload_n 2, 1) := by decide +kernel
theorem dX4_near_10 : decode cX4_near 10 = .ok (.invokevirtual 85, 3) := by decide +kernel
theorem dX4_near_13 : decode cX4_near 13 = .ok (.ifCond .eq 8, 3) := by decide +kernel
theorem dX4_near_16 : decode cX4_near 16 = .ok (.iload_n 1, 1) := by decide +kernel
theorem dX4_near_17 : decode cX4_near 17 = .ok (.iload_n 2, 1) := by decide +kernel
theorem dX4_near_18 : decode cX4_near 18 = .ok (.if_icmp .ne 5, 3) := by decide +kernel
theorem dX4_near_21 : decode cX4_near 21 = .ok (.iconst 0, 1) := by decide +kernel
theorem dX4_near_22 : decode cX4_near 22 = .ok (.ireturn, 1) := by decide +kernel
theorem dX4_near_23 : decode cX4_near 23 = .ok (.aload_n 0, 1) := by decide +kernel
theorem dX4_near_24 : decode cX4_near 24 = .ok (.getfield 16, 3) := by decide +kernel
theorem dX4_near_27 : decode cX4_near 27 = .ok (.iconst 4, 1) := by decide +kernel
theorem dX4_near_28 : decode cX4_near 28 = .ok (.iload_n 1, 1) := by decide +kernel
theorem dX4_near_29 : decode cX4_near 29 = .ok (.imul, 1) := by decide +kernel
theorem dX4_near_30 : decode cX4_near 30 = .ok (.iload_n 2, 1) := by decide +kernel
theorem dX4_near_31 : decode cX4_near 31 = .ok (.iadd, 1) := by decide +kernel
theorem dX4_near_32 : decode cX4_near 32 = .ok (.iload_n 3, 1) := by decide +kernel
theorem dX4_near_33 : decode cX4_near 33 = .ok (.bastore, 1) := by decide +kernel
theorem dX4_near_34 : decode cX4_near 34 = .ok (.aload_n 0, 1) := by decide +kernel
theorem dX4_near_35 : decode cX4_near 35 = .ok (.getfield 16, 3) := by decide +kernel
theorem dX4_near_38 : decode cX4_near 38 = .ok (.iconst 4, 1) := by decide +kernel
theorem dX4_near_39 : decode cX4_near 39 = .ok (.iload_n 2, 1) := by decide +kernel
theorem dX4_near_40 : decode cX4_near 40 = .ok (.imul, 1) := by decide +kernel
theorem dX4_near_41 : decode cX4_near 41 = .ok (.iload_n 1, 1) := by decide +kernel
theorem dX4_near_42 : decode cX4_near 42 = .ok (.iadd, 1) := by decide +kernel
theorem dX4_near_43 : decode cX4_near 43 = .ok (.iload_n 3, 1) := by decide +kernel
theorem dX4_near_44 : decode cX4_near 44 = .ok (.bastore, 1) := by decide +kernel
theorem dX4_near_45 : decode cX4_near 45 = .ok (.iconst 1, 1) := by decide +kernel
theorem dX4_near_46 : decode cX4_near 46 = .ok (.ireturn, 1) := by decide +kernel
set_option maxRecDepth 20000 in
theorem ggX4_delay_X4_isWork : GoodIn wsX4_delay wsX4_isWork := goodIn_r _ [7, 8, 17, 18, 19, 20, 21, 22, 23, 24, 25, 26, 27, 28, 29, 30, 31, 32, 33, 34, 35, 36, 37, 38, 39, 40, 41] (by decide +kernel) (by decide +kernel)
set_option maxRecDepth 20000 in
theorem gX4_delay_X4_isWork : GoodIn wsX4_delay (wsV RX4 85 RX4 yX4_isWork wsX4_isWork) := goodIn_app (goodIn_of _ (by decide +kernel)) ggX4_delay_X4_isWork
set_option maxRecDepth 20000 in
theorem ggX4_delay_X4_isHour : GoodIn wsX4_delay wsX4_isHour := goodIn_r _ [12, 13, 17, 18, 19, 20, 21, 22, 23, 24, 25, 26, 27, 28, 29, 30, 31, 32, 33, 34, 35, 36, 37, 38, 39, 40, 41] (by decide +kernel) (by decide +kernel)
set_option maxRecDepth 20000 in
theorem gX4_delay_X4_isHour : GoodIn wsX4_delay (wsV RX4 89 RX4 yX4_isHour wsX4_isHour) := goodIn_app (goodIn_of _ (by decide +kernel)) ggX4_delay_X4_isHour
set_option maxRecDepth 20000 in
theorem ggX4_delay_X4_isIn : GoodIn wsX4_delay wsX4_isIn := goodIn_r _ [16] (by decide +kernel) (by decide +kernel)
set_option maxRecDepth 20000 in
theorem gX4_delay_X4_isIn : GoodIn wsX4_delay (va_wsS RX4 81 yX4_isIn wsX4_isIn) := goodIn_app (goodIn_of _ (by decide +kernel)) ggX4_delay_X4_isIn
theorem dX4_delay_0 : decode cX4_delay 0 = .ok (.aload_n 0, 1) := by decide +kernel
theorem dX4_delay_1 : decode cX4_delay 1 = .ok (.iload_n 1, 1) := by decide +kernel
theorem dX4_delay_2 : decode cX4_delay 2 = .ok (.invokevirtual 85, 3) := by decide +kernel
theorem dX4_delay_5 : decode cX4_delay 5 = .ok (.ifCond .eq 21, 3) := by decide +kernel
theorem dX4_delay_8 : decode cX4_delay 8 = .ok (.aload_n 0, 1) := by decide +kernel
theorem dX4_delay_9 : decode cX4_delay 9 = .ok (.iload_n 2, 1) := by decide +kernel
theorem dX4_delay_10 : decode cX4_delay 10 = .ok (.invokevirtual 89, 3) := by decide +kernel
theorem dX4_delay_13 : decode cX4_delay 13 = .ok (.ifCond .eq 13, 3) := by decide +kernel
theorem dX4_delay_16 : decode cX4_delay 16 = .ok (.iload_n 3, 1) := by decide +kernel
theorem dX4_delay_17 : decode cX4_delay 17 = .ok (.iconst 0, 1) := by decide +kernel
theorem dX4_delay_18 : decode cX4_delay 18 = .ok (.ldc 92, 2) := by decide +kernel
theorem dX4_delay_20 : decode cX4_delay 20 = .ok (.invokestatic 81, 3) := by decide +kernel
theorem dX4_delay_23 : decode cX4_delay 23 = .ok (.ifCond .ne 5, 3) := by decide +kernel
theorem dX4_delay_26 : decode cX4_delay 26 = .ok (.iconst 0, 1) := by decide +kernel
theorem dX4_delay_27 : decode cX4_delay 27 = .ok (.ireturn, 1) := by decide +kernel
theorem dX4_delay_28 : decode cX4_delay 28 = .ok (.aload_n 0, 1) := by decide +kernel
theorem dX4_delay_29 : decode cX4_delay 29 = .ok (.getfield 20, 3) := by decide +kernel
theorem dX4_delay_32 : decode cX4_delay 32 = .ok (.bipush 36, 2) := by decide +kernel
theorem dX4_delay_34 : decode cX4_delay 34 = .ok (.iload_n 1, 1) := by decide +kernel
theorem dX4_delay_35 : decode cX4_delay 35 = .ok (.imul, 1) := by decide +kernel
theorem dX4_delay_36 : decode cX4_delay 36 = .ok (.iload_n 2, 1) := by decide +kernel
theorem dX4_delay_37 : decode cX4_delay 37 = .ok (.iadd, 1) := by decide +kernel
theorem dX4_delay_38 : decode cX4_delay 38 = .ok (.iload_n 3, 1) := by decide +kernel
theorem dX4_delay_39 : decode cX4_delay 39 = .ok (.iastore, 1) := by decide +kernel
theorem dX4_delay_40 : decode cX4_delay 40 = .ok (.iconst 1, 1) := by decide +kernel
theorem dX4_delay_41 : decode cX4_delay 41 = .ok (.ireturn, 1) := by decide +kernel
set_option maxRecDepth 20000 in
theorem ggX4_night_X4_isWork : GoodIn wsX4_night wsX4_isWork := goodIn_r _ [6, 7, 8, 9, 10, 11, 12, 13, 14, 15, 16, 17, 18, 19, 20, 21, 22, 23, 24, 25, 26, 27, 28, 29, 30, 31, 32] (by decide +kernel) (by decide +kernel)
set_option maxRecDepth 20000 in
theorem gX4_night_X4_isWork : GoodIn wsX4_night (wsV RX4 85 RX4 yX4_isWork wsX4_isWork) := goodIn_app (goodIn_of _ (by decide +kernel)) ggX4_night_X4_isWork
theorem dX4_night_0 : decode cX4_night 0 = .ok (.aload_n 0, 1) := by decide +kernel
theorem dX4_night_1 : decode cX4_night 1 = .ok (.iload_n 1, 1) := by decide +kernel
theorem dX4_night_2 : decode cX4_night 2 = .ok (.invokevirtual 85, 3) := by decide +kernel
theorem dX4_night_5 : decode cX4_night 5 = .ok (.ifCond .ne 5, 3) := by decide +kernel
theorem dX4_night_8 : decode cX4_night 8 = .ok (.iconst 0, 1) := by decide +kernel
theorem dX4_night_9 : decode cX4_night 9 = .ok (.ireturn, 1) := by decide +kernel
theorem dX4_night_10 : decode cX4_night 10 = .ok (.aload_n 0, 1) := by decide +kernel
theorem dX4_night_11 : decode cX4_night 11 = .ok (.getfield 23, 3) := by decide +kernel
theorem dX4_night_14 : decode cX4_night 14 = .ok (.iload_n 1, 1) := by decide +kernel
theorem dX4_night_15 : decode cX4_night 15 = .ok (.iload_n 2, 1) := by decide +kernel
theorem dX4_night_16 : decode cX4_night 16 = .ok (.bastore, 1) := by decide +kernel
theorem dX4_night_17 : decode cX4_night 17 = .ok (.iconst 1, 1) := by decide +kernel
theorem dX4_night_18 : decode cX4_night 18 = .ok (.ireturn, 1) := by decide +kernel
set_option maxRecDepth 20000 in
theorem ggX4_event_X4_isWork : GoodIn wsX4_event wsX4_isWork := goodIn_r _ [6, 7, 13, 14, 15, 16, 17, 18, 19, 20, 21, 22, 23, 24, 25, 26, 27, 28, 29, 30, 31, 32, 33, 34, 35, 36, 37] (by decide +kernel) (by decide +kernel)
set_option maxRecDepth 20000 in
theorem gX4_event_X4_isWork : GoodIn wsX4_event (wsV RX4 85 RX4 yX4_isWork wsX4_isWork) := goodIn_app (goodIn_of _ (by decide +kernel)) ggX4_event_X4_isWork
set_option maxRecDepth 20000 in
theorem ggX4_event_X4_isHour : GoodIn wsX4_event wsX4_isHour := goodIn_r _ [11, 12, 13, 14, 15, 16, 17, 18, 19, 20, 21, 22, 23, 24, 25, 26, 27, 28, 29, 30, 31, 32, 33, 34, 35, 36, 37] (by decide +kernel) (by decide +kernel)
set_option maxRecDepth 20000 in
theorem gX4_event_X4_isHour : GoodIn wsX4_event (wsV RX4 89 RX4 yX4_isHour wsX4_isHour) := goodIn_app (goodIn_of _ (by decide +kernel)) ggX4_event_X4_isHour
theorem dX4_event_0 : decode cX4_event 0 = .ok (.aload_n 0, 1) := by decide +kernel
theorem dX4_event_1 : decode cX4_event 1 = .ok (.iload_n 1, 1) := by decide +kernel
theorem dX4_event_2 : decode cX4_event 2 = .ok (.invokevirtual 85, 3) := by decide +kernel
theorem dX4_event_5 : decode cX4_event 5 = .ok (.ifCond .eq 11, 3) := by decide +kernel
theorem dX4_event_8 : decode cX4_event 8 = .ok (.aload_n 0, 1) := by decide +kernel
theorem dX4_event_9 : decode cX4_event 9 = .ok (.iload_n 2, 1) := by decide +kernel
theorem dX4_event_10 : decode cX4_event 10 = .ok (.invokevirtual 89, 3) := by decide +kernel
theorem dX4_event_13 : decode cX4_event 13 = .ok (.ifCond .ne 5, 3) := by decide +kernel
theorem dX4_event_16 : decode cX4_event 16 = .ok (.iconst 0, 1) := by decide +kernel
theorem dX4_event_17 : decode cX4_event 17 = .ok (.ireturn, 1) := by decide +kernel
theorem dX4_event_18 : decode cX4_event 18 = .ok (.aload_n 0, 1) := by decide +kernel
theorem dX4_event_19 : decode cX4_event 19 = .ok (.getfield 26, 3) := by decide +kernel
theorem dX4_event_22 : decode cX4_event 22 = .ok (.bipush 36, 2) := by decide +kernel
theorem dX4_event_24 : decode cX4_event 24 = .ok (.iload_n 1, 1) := by decide +kernel
theorem dX4_event_25 : decode cX4_event 25 = .ok (.imul, 1) := by decide +kernel
theorem dX4_event_26 : decode cX4_event 26 = .ok (.iload_n 2, 1) := by decide +kernel
theorem dX4_event_27 : decode cX4_event 27 = .ok (.iadd, 1) := by decide +kernel
theorem dX4_event_28 : decode cX4_event 28 = .ok (.iload_n 3, 1) := by decide +kernel
theorem dX4_event_29 : decode cX4_event 29 = .ok (.bastore, 1) := by decide +kernel
theorem dX4_event_30 : decode cX4_event 30 = .ok (.iconst 1, 1) := by decide +kernel
theorem dX4_event_31 : decode cX4_event 31 = .ok (.ireturn, 1) := by decide +kernel
set_option maxRecDepth 20000 in
theorem ggX4_noise_X4_isWork : GoodIn wsX4_noise wsX4_isWork := goodIn_r _ [7, 8, 14, 15, 16, 17, 18, 19, 20, 21, 22, 23, 24, 25, 26, 27, 28, 29, 30, 31, 32, 33, 34, 35, 36, 37, 38] (by decide +kernel) (by decide +kernel)
set_option maxRecDepth 20000 in
theorem gX4_noise_X4_isWork : GoodIn wsX4_noise (wsV RX4 85 RX4 yX4_isWork wsX4_isWork) := goodIn_app (goodIn_of _ (by decide +kernel)) ggX4_noise_X4_isWork
set_option maxRecDepth 20000 in
theorem ggX4_noise_X4_isHour : GoodIn wsX4_noise wsX4_isHour := goodIn_r _ [12, 13, 14, 15, 16, 17, 18, 19, 20, 21, 22, 23, 24, 25, 26, 27, 28, 29, 30, 31, 32, 33, 34, 35, 36, 37, 38] (by decide +kernel) (by decide +kernel)
set_option maxRecDepth 20000 in
theorem gX4_noise_X4_isHour : GoodIn wsX4_noise (wsV RX4 89 RX4 yX4_isHour wsX4_isHour) := goodIn_app (goodIn_of _ (by decide +kernel)) ggX4_noise_X4_isHour
theorem dX4_noise_0 : decode cX4_noise 0 = .ok (.aload_n 0, 1) := by decide +kernel
theorem dX4_noise_1 : decode cX4_noise 1 = .ok (.iload_n 1, 1) := by decide +kernel
theorem dX4_noise_2 : decode cX4_noise 2 = .ok (.invokevirtual 85, 3) := by decide +kernel
theorem dX4_noise_5 : decode cX4_noise 5 = .ok (.ifCond .eq 19, 3) := by decide +kernel
theorem dX4_noise_8 : decode cX4_noise 8 = .ok (.aload_n 0, 1) := by decide +kernel
theorem dX4_noise_9 : decode cX4_noise 9 = .ok (.iload_n 2, 1) := by decide +kernel
theorem dX4_noise_10 : decode cX4_noise 10 = .ok (.invokevirtual 89, 3) := by decide +kernel
theorem dX4_noise_13 : decode cX4_noise 13 = .ok (.ifCond .eq 11, 3) := by decide +kernel
theorem dX4_noise_16 : decode cX4_noise 16 = .ok (.aload_n 0, 1) := by decide +kernel
theorem dX4_noise_17 : decode cX4_noise 17 = .ok (.iload_n 3, 1) := by decide +kernel
theorem dX4_noise_18 : decode cX4_noise 18 = .ok (.invokevirtual 89, 3) := by decide +kernel
theorem dX4_noise_21 : decode cX4_noise 21 = .ok (.ifCond .ne 5, 3) := by decide +kernel
theorem dX4_noise_24 : decode cX4_noise 24 = .ok (.iconst 0, 1) := by decide +kernel
theorem dX4_noise_25 : decode cX4_noise 25 = .ok (.ireturn, 1) := by decide +kernel
theorem dX4_noise_26 : decode cX4_noise 26 = .ok (.aload_n 0, 1) := by decide +kernel
theorem dX4_noise_27 : decode cX4_noise 27 = .ok (.getfield 29, 3) := by decide +kernel
theorem dX4_noise_30 : decode cX4_noise 30 = .ok (.iload_n 1, 1) := by decide +kernel
theorem dX4_noise_31 : decode cX4_noise 31 = .ok (.iload_n 2, 1) := by decide +kernel
theorem dX4_noise_32 : decode cX4_noise 32 = .ok (.iastore, 1) := by decide +kernel
theorem dX4_noise_33 : decode cX4_noise 33 = .ok (.aload_n 0, 1) := by decide +kernel
theorem dX4_noise_34 : decode cX4_noise 34 = .ok (.getfield 32, 3) := by decide +kernel
theorem dX4_noise_37 : decode cX4_noise 37 = .ok (.iload_n 1, 1) := by decide +kernel
theorem dX4_noise_38 : decode cX4_noise 38 = .ok (.iload_n 3, 1) := by decide +kernel
theorem dX4_noise_39 : decode cX4_noise 39 = .ok (.iastore, 1) := by decide +kernel
theorem dX4_noise_40 : decode cX4_noise 40 = .ok (.iconst 1, 1) := by decide +kernel
theorem dX4_noise_41 : decode cX4_noise 41 = .ok (.ireturn, 1) := by decide +kernel
set_option maxRecDepth 20000 in
theorem ggX4_crew_X4_isWork : GoodIn wsX4_crew wsX4_isWork := goodIn_r _ [6, 7, 11, 12, 13, 14, 15, 16, 17, 18, 19, 20, 21, 22, 23, 24, 25, 26, 27, 28, 29, 30, 31, 32, 33, 34, 35] (by decide +kernel) (by decide +kernel)
set_option maxRecDepth 20000 in
theorem gX4_crew_X4_isWork : GoodIn wsX4_crew (wsV RX4 85 RX4 yX4_isWork wsX4_isWork) := goodIn_app (goodIn_of _ (by decide +kernel)) ggX4_crew_X4_isWork
set_option maxRecDepth 20000 in
theorem ggX4_crew_X4_isIn : GoodIn wsX4_crew wsX4_isIn := goodIn_r _ [10] (by decide +kernel) (by decide +kernel)
set_option maxRecDepth 20000 in
theorem gX4_crew_X4_isIn : GoodIn wsX4_crew (va_wsS RX4 81 yX4_isIn wsX4_isIn) := goodIn_app (goodIn_of _ (by decide +kernel)) ggX4_crew_X4_isIn
theorem dX4_crew_0 : decode cX4_crew 0 = .ok (.aload_n 0, 1) := by decide +kernel
theorem dX4_crew_1 : decode cX4_crew 1 = .ok (.iload_n 1, 1) := by decide +kernel
theorem dX4_crew_2 : decode cX4_crew 2 = .ok (.invokevirtual 85, 3) := by decide +kernel
theorem dX4_crew_5 : decode cX4_crew 5 = .ok (.ifCond .eq 12, 3) := by decide +kernel
theorem dX4_crew_8 : decode cX4_crew 8 = .ok (.iload_n 2, 1) := by decide +kernel
theorem dX4_crew_9 : decode cX4_crew 9 = .ok (.iconst 0, 1) := by decide +kernel
theorem dX4_crew_10 : decode cX4_crew 10 = .ok (.iconst 3, 1) := by decide +kernel
theorem dX4_crew_11 : decode cX4_crew 11 = .ok (.invokestatic 81, 3) := by decide +kernel
theorem dX4_crew_14 : decode cX4_crew 14 = .ok (.ifCond .ne 5, 3) := by decide +kernel
theorem dX4_crew_17 : decode cX4_crew 17 = .ok (.iconst 0, 1) := by decide +kernel
theorem dX4_crew_18 : decode cX4_crew 18 = .ok (.ireturn, 1) := by decide +kernel
theorem dX4_crew_19 : decode cX4_crew 19 = .ok (.aload_n 0, 1) := by decide +kernel
theorem dX4_crew_20 : decode cX4_crew 20 = .ok (.getfield 35, 3) := by decide +kernel
theorem dX4_crew_23 : decode cX4_crew 23 = .ok (.iload_n 1, 1) := by decide +kernel
theorem dX4_crew_24 : decode cX4_crew 24 = .ok (.iload_n 2, 1) := by decide +kernel
theorem dX4_crew_25 : decode cX4_crew 25 = .ok (.iastore, 1) := by decide +kernel
theorem dX4_crew_26 : decode cX4_crew 26 = .ok (.iconst 1, 1) := by decide +kernel
theorem dX4_crew_27 : decode cX4_crew 27 = .ok (.ireturn, 1) := by decide +kernel
set_option maxRecDepth 20000 in
theorem ggX4_rest_X4_isIn : GoodIn wsX4_rest wsX4_isIn := goodIn_r _ [5] (by decide +kernel) (by decide +kernel)
set_option maxRecDepth 20000 in
theorem gX4_rest_X4_isIn : GoodIn wsX4_rest (va_wsS RX4 81 yX4_isIn wsX4_isIn) := goodIn_app (goodIn_of _ (by decide +kernel)) ggX4_rest_X4_isIn
theorem dX4_rest_0 : decode cX4_rest 0 = .ok (.iload_n 1, 1) := by decide +kernel
theorem dX4_rest_1 : decode cX4_rest 1 = .ok (.iconst 0, 1) := by decide +kernel
theorem dX4_rest_2 : decode cX4_rest 2 = .ok (.iconst 3, 1) := by decide +kernel
theorem dX4_rest_3 : decode cX4_rest 3 = .ok (.invokestatic 81, 3) := by decide +kernel
theorem dX4_rest_6 : decode cX4_rest 6 = .ok (.ifCond .eq 13, 3) := by decide +kernel
theorem dX4_rest_9 : decode cX4_rest 9 = .ok (.iload_n 2, 1) := by decide +kernel
theorem dX4_rest_10 : decode cX4_rest 10 = .ok (.iconst 0, 1) := by decide +kernel
theorem dX4_rest_11 : decode cX4_rest 11 = .ok (.bipush 36, 2) := by decide +kernel
theorem dX4_rest_13 : decode cX4_rest 13 = .ok (.invokestatic 81, 3) := by decide +kernel
theorem dX4_rest_16 : decode cX4_rest 16 = .ok (.ifCond .ne 5, 3) := by decide +kernel
theorem dX4_rest_19 : decode cX4_rest 19 = .ok (.iconst 0, 1) := by decide +kernel
theorem dX4_rest_20 : decode cX4_rest 20 = .ok (.ireturn, 1) := by decide +kernel
theorem dX4_rest_21 : decode cX4_rest 21 = .ok (.aload_n 0, 1) := by decide +kernel
theorem dX4_rest_22 : decode cX4_rest 22 = .ok (.getfield 38, 3) := by decide +kernel
theorem dX4_rest_25 : decode cX4_rest 25 = .ok (.iload_n 1, 1) := by decide +kernel
theorem dX4_rest_26 : decode cX4_rest 26 = .ok (.iload_n 2, 1) := by decide +kernel
theorem dX4_rest_27 : decode cX4_rest 27 = .ok (.iastore, 1) := by decide +kernel
theorem dX4_rest_28 : decode cX4_rest 28 = .ok (.iconst 1, 1) := by decide +kernel
theorem dX4_rest_29 : decode cX4_rest 29 = .ok (.ireturn, 1) := by decide +kernel
set_option maxRecDepth 20000 in
theorem ggX4_rate_X4_isIn : GoodIn wsX4_rate wsX4_isIn := goodIn_r _ [6] (by decide +kernel) (by decide +kernel)
set_option maxRecDepth 20000 in
theorem gX4_rate_X4_isIn : GoodIn wsX4_rate (va_wsS RX4 81 yX4_isIn wsX4_isIn) := goodIn_app (goodIn_of _ (by decide +kernel)) ggX4_rate_X4_isIn
theorem dX4_rate_0 : decode cX4_rate 0 = .ok (.iload_n 1, 1) := by decide +kernel
theorem dX4_rate_1 : decode cX4_rate 1 = .ok (.iconst 0, 1) := by decide +kernel
theorem dX4_rate_2 : decode cX4_rate 2 = .ok (.ldc 93, 2) := by decide +kernel
theorem dX4_rate_4 : decode cX4_rate 4 = .ok (.invokestatic 81, 3) := by decide +kernel
theorem dX4_rate_7 : decode cX4_rate 7 = .ok (.ifCond .ne 5, 3) := by decide +kernel
theorem dX4_rate_10 : decode cX4_rate 10 = .ok (.iconst 0, 1) := by decide +kernel
theorem dX4_rate_11 : decode cX4_rate 11 = .ok (.ireturn, 1) := by decide +kernel
theorem dX4_rate_12 : decode cX4_rate 12 = .ok (.aload_n 0, 1) := by decide +kernel
theorem dX4_rate_13 : decode cX4_rate 13 = .ok (.iload_n 1, 1) := by decide +kernel
theorem dX4_rate_14 : decode cX4_rate 14 = .ok (.i2l, 1) := by decide +kernel
theorem dX4_rate_15 : decode cX4_rate 15 = .ok (.putfield 94, 3) := by decide +kernel
theorem dX4_rate_18 : decode cX4_rate 18 = .ok (.iconst 1, 1) := by decide +kernel
theorem dX4_rate_19 : decode cX4_rate 19 = .ok (.ireturn, 1) := by decide +kernel
theorem dX4_span_0 : decode cX4_span 0 = .ok (.aload_n 0, 1) := by decide +kernel
theorem dX4_span_1 : decode cX4_span 1 = .ok (.getfield 13, 3) := by decide +kernel
theorem dX4_span_4 : decode cX4_span 4 = .ok (.iload_n 1, 1) := by decide +kernel
theorem dX4_span_5 : decode cX4_span 5 = .ok (.iaload, 1) := by decide +kernel
theorem dX4_span_6 : decode cX4_span 6 = .ok (.aload_n 0, 1) := by decide +kernel
theorem dX4_span_7 : decode cX4_span 7 = .ok (.getfield 7, 3) := by decide +kernel
theorem dX4_span_10 : decode cX4_span 10 = .ok (.iload_n 1, 1) := by decide +kernel
theorem dX4_span_11 : decode cX4_span 11 = .ok (.iaload, 1) := by decide +kernel
theorem dX4_span_12 : decode cX4_span 12 = .ok (.iadd, 1) := by decide +kernel
theorem dX4_span_13 : decode cX4_span 13 = .ok (.ireturn, 1) := by decide +kernel
set_option maxRecDepth 20000 in
theorem ggX4_breaksAlone_X4_span : GoodIn wsX4_breaksAlone wsX4_span := goodIn_r _ [11, 4, 12, 13, 14, 15, 16, 17, 18, 19, 20, 21, 22, 23, 24, 25, 26, 27, 28, 29, 30, 31, 32, 33, 34, 35, 36, 37] (by decide +kernel) (by decide +kernel)
set_option maxRecDepth 20000 in
theorem gX4_breaksAlone_X4_span : GoodIn wsX4_breaksAlone (wsV RX4 98 RX4 yX4_span wsX4_span) := goodIn_app (goodIn_of _ (by decide +kernel)) ggX4_breaksAlone_X4_span
theorem dX4_breaksAlone_0 : decode cX4_breaksAlone 0 = .ok (.iload_n 2, 1) := by decide +kernel
theorem dX4_breaksAlone_1 : decode cX4_breaksAlone 1 = .ok (.aload_n 0, 1) := by decide +kernel
theorem dX4_breaksAlone_2 : decode cX4_breaksAlone 2 = .ok (.iload_n 1, 1) := by decide +kernel
theorem dX4_breaksAlone_3 : decode cX4_breaksAlone 3 = .ok (.invokevirtual 98, 3) := by decide +kernel
theorem dX4_breaksAlone_6 : decode cX4_breaksAlone 6 = .ok (.iadd, 1) := by decide +kernel
theorem dX4_breaksAlone_7 : decode cX4_breaksAlone 7 = .ok (.aload_n 0, 1) := by decide +kernel
theorem dX4_breaksAlone_8 : decode cX4_breaksAlone 8 = .ok (.getfield 74, 3) := by decide +kernel
theorem dX4_breaksAlone_11 : decode cX4_breaksAlone 11 = .ok (.if_icmp .le 5, 3) := by decide +kernel
theorem dX4_breaksAlone_14 : decode cX4_breaksAlone 14 = .ok (.iconst 1, 1) := by decide +kernel
theorem dX4_breaksAlone_15 : decode cX4_breaksAlone 15 = .ok (.ireturn, 1) := by decide +kernel
theorem dX4_breaksAlone_16 : decode cX4_breaksAlone 16 = .ok (.iconst 0, 1) := by decide +kernel
theorem dX4_breaksAlone_17 : decode cX4_breaksAlone 17 = .ok (.istore_n 3, 1) := by decide +kernel
theorem dX4_breaksAlone_18 : decode cX4_breaksAlone 18 = .ok (.iload_n 2, 1) := by decide +kernel
theorem dX4_breaksAlone_19 : decode cX4_breaksAlone 19 = .ok (.istore 4, 2) := by decide +kernel
theorem dX4_breaksAlone_21 : decode cX4_breaksAlone 21 = .ok (.iload 4, 2) := by decide +kernel
theorem dX4_breaksAlone_23 : decode cX4_breaksAlone 23 = .ok (.iload_n 2, 1) := by decide +kernel
theorem dX4_breaksAlone_24 : decode cX4_breaksAlone 24 = .ok (.aload_n 0, 1) := by decide +kernel
theorem dX4_breaksAlone_25 : decode cX4_breaksAlone 25 = .ok (.iload_n 1, 1) := by decide +kernel
theorem dX4_breaksAlone_26 : decode cX4_breaksAlone 26 = .ok (.invokevirtual 98, 3) := by decide +kernel
theorem dX4_breaksAlone_29 : decode cX4_breaksAlone 29 = .ok (.iadd, 1) := by decide +kernel
theorem dX4_breaksAlone_30 : decode cX4_breaksAlone 30 = .ok (.if_icmp .ge 137, 3) := by decide +kernel
theorem dX4_breaksAlone_33 : decode cX4_breaksAlone 33 = .ok (.iload 4, 2) := by decide +kernel
theorem dX4_breaksAlone_35 : decode cX4_breaksAlone 35 = .ok (.bipush 24, 2) := by decide +kernel
theorem dX4_breaksAlone_37 : decode cX4_breaksAlone 37 = .ok (.irem, 1) := by decide +kernel
theorem dX4_breaksAlone_38 : decode cX4_breaksAlone 38 = .ok (.istore 5, 2) := by decide +kernel
theorem dX4_breaksAlone_40 : decode cX4_breaksAlone 40 = .ok (.iload 5, 2) := by decide +kernel
theorem dX4_breaksAlone_42 : decode cX4_breaksAlone 42 = .ok (.bipush 20, 2) := by decide +kernel
theorem dX4_breaksAlone_44 : decode cX4_breaksAlone 44 = .ok (.if_icmp .ge 9, 3) := by decide +kernel
theorem dX4_breaksAlone_47 : decode cX4_breaksAlone 47 = .ok (.iload 5, 2) := by decide +kernel
theorem dX4_breaksAlone_49 : decode cX4_breaksAlone 49 = .ok (.iconst 4, 1) := by decide +kernel
theorem dX4_breaksAlone_50 : decode cX4_breaksAlone 50 = .ok (.if_icmp .gt 7, 3) := by decide +kernel
theorem dX4_breaksAlone_53 : decode cX4_breaksAlone 53 = .ok (.iconst 1, 1) := by decide +kernel
theorem dX4_breaksAlone_54 : decode cX4_breaksAlone 54 = .ok (.goto 4, 3) := by decide +kernel
theorem dX4_breaksAlone_57 : decode cX4_breaksAlone 57 = .ok (.iconst 0, 1) := by decide +kernel
theorem dX4_breaksAlone_58 : decode cX4_breaksAlone 58 = .ok (.istore 6, 2) := by decide +kernel
theorem dX4_breaksAlone_60 : decode cX4_breaksAlone 60 = .ok (.aload_n 0, 1) := by decide +kernel
theorem dX4_breaksAlone_61 : decode cX4_breaksAlone 61 = .ok (.getfield 23, 3) := by decide +kernel
theorem dX4_breaksAlone_64 : decode cX4_breaksAlone 64 = .ok (.iload_n 1, 1) := by decide +kernel
theorem dX4_breaksAlone_65 : decode cX4_breaksAlone 65 = .ok (.baload, 1) := by decide +kernel
theorem dX4_breaksAlone_66 : decode cX4_breaksAlone 66 = .ok (.ifCond .eq 12, 3) := by decide +kernel
theorem dX4_breaksAlone_69 : decode cX4_breaksAlone 69 = .ok (.iload 6, 2) := by decide +kernel
theorem dX4_breaksAlone_71 : decode cX4_breaksAlone 71 = .ok (.ifCond .ne 7, 3) := by decide +kernel
theorem dX4_breaksAlone_74 : decode cX4_breaksAlone 74 = .ok (.iconst 2, 1) := by decide +kernel
theorem dX4_breaksAlone_75 : decode cX4_breaksAlone 75 = .ok (.goto 62, 3) := by decide +kernel
theorem dX4_breaksAlone_78 : decode cX4_breaksAlone 78 = .ok (.aload_n 0, 1) := by decide +kernel
theorem dX4_breaksAlone_79 : decode cX4_breaksAlone 79 = .ok (.getfield 26, 3) := by decide +kernel
theorem dX4_breaksAlone_82 : decode cX4_breaksAlone 82 = .ok (.bipush 36, 2) := by decide +kernel
theorem dX4_breaksAlone_84 : decode cX4_breaksAlone 84 = .ok (.iload_n 1, 1) := by decide +kernel
theorem dX4_breaksAlone_85 : decode cX4_breaksAlone 85 = .ok (.imul, 1) := by decide +kernel
theorem dX4_breaksAlone_86 : decode cX4_breaksAlone 86 = .ok (.iload 4, 2) := by decide +kernel
theorem dX4_breaksAlone_88 : decode cX4_breaksAlone 88 = .ok (.iadd, 1) := by decide +kernel
theorem dX4_breaksAlone_89 : decode cX4_breaksAlone 89 = .ok (.baload, 1) := by decide +kernel
theorem dX4_breaksAlone_90 : decode cX4_breaksAlone 90 = .ok (.ifCond .eq 7, 3) := by decide +kernel
theorem dX4_breaksAlone_93 : decode cX4_breaksAlone 93 = .ok (.iconst 3, 1) := by decide +kernel
theorem dX4_breaksAlone_94 : decode cX4_breaksAlone 94 = .ok (.goto 43, 3) := by decide +kernel
theorem dX4_breaksAlone_97 : decode cX4_breaksAlone 97 = .ok (.iload 4, 2) := by decide +kernel
theorem dX4_breaksAlone_99 : decode cX4_breaksAlone 99 = .ok (.iload_n 2, 1) := by decide +kernel
theorem dX4_breaksAlone_100 : decode cX4_breaksAlone 100 = .ok (.aload_n 0, 1) := by decide +kernel
theorem dX4_breaksAlone_101 : decode cX4_breaksAlone 101 = .ok (.getfield 13, 3) := by decide +kernel
theorem dX4_breaksAlone_104 : decode cX4_breaksAlone 104 = .ok (.iload_n 1, 1) := by decide +kernel
theorem dX4_breaksAlone_105 : decode cX4_breaksAlone 105 = .ok (.iaload, 1) := by decide +kernel
theorem dX4_breaksAlone_106 : decode cX4_breaksAlone 106 = .ok (.iadd, 1) := by decide +kernel
theorem dX4_breaksAlone_107 : decode cX4_breaksAlone 107 = .ok (.if_icmp .lt 29, 3) := by decide +kernel
theorem dX4_breaksAlone_110 : decode cX4_breaksAlone 110 = .ok (.iload 4, 2) := by decide +kernel
theorem dX4_breaksAlone_112 : decode cX4_breaksAlone 112 = .ok (.aload_n 0, 1) := by decide +kernel
theorem dX4_breaksAlone_113 : decode cX4_breaksAlone 113 = .ok (.getfield 29, 3) := by decide +kernel
theorem dX4_breaksAlone_116 : decode cX4_breaksAlone 116 = .ok (.iload_n 1, 1) := by decide +kernel
theorem dX4_breaksAlone_117 : decode cX4_breaksAlone 117 = .ok (.iaload, 1) := by decide +kernel
theorem dX4_breaksAlone_118 : decode cX4_breaksAlone 118 = .ok (.if_icmp .lt 18, 3) := by decide +kernel
theorem dX4_breaksAlone_121 : decode cX4_breaksAlone 121 = .ok (.iload 4, 2) := by decide +kernel
theorem dX4_breaksAlone_123 : decode cX4_breaksAlone 123 = .ok (.aload_n 0, 1) := by decide +kernel
theorem dX4_breaksAlone_124 : decode cX4_breaksAlone 124 = .ok (.getfield 32, 3) := by decide +kernel
theorem dX4_breaksAlone_127 : decode cX4_breaksAlone 127 = .ok (.iload_n 1, 1) := by decide +kernel
theorem dX4_breaksAlone_128 : decode cX4_breaksAlone 128 = .ok (.iaload, 1) := by decide +kernel
theorem dX4_breaksAlone_129 : decode cX4_breaksAlone 129 = .ok (.if_icmp .gt 7, 3) := by decide +kernel
theorem dX4_breaksAlone_132 : decode cX4_breaksAlone 132 = .ok (.iconst 4, 1) := by decide +kernel
theorem dX4_breaksAlone_133 : decode cX4_breaksAlone 133 = .ok (.goto 4, 3) := by decide +kernel
theorem dX4_breaksAlone_136 : decode cX4_breaksAlone 136 = .ok (.iconst 0, 1) := by decide +kernel
theorem dX4_breaksAlone_137 : decode cX4_breaksAlone 137 = .ok (.istore 7, 2) := by decide +kernel
theorem dX4_breaksAlone_139 : decode cX4_breaksAlone 139 = .ok (.iload 7, 2) := by decide +kernel
theorem dX4_breaksAlone_141 : decode cX4_breaksAlone 141 = .ok (.ifCond .le 18, 3) := by decide +kernel
theorem dX4_breaksAlone_144 : decode cX4_breaksAlone 144 = .ok (.iload_n 3, 1) := by decide +kernel
theorem dX4_breaksAlone_145 : decode cX4_breaksAlone 145 = .ok (.ifCond .eq 9, 3) := by decide +kernel
theorem dX4_breaksAlone_148 : decode cX4_breaksAlone 148 = .ok (.iload 7, 2) := by decide +kernel
theorem dX4_breaksAlone_150 : decode cX4_breaksAlone 150 = .ok (.iload_n 3, 1) := by decide +kernel
theorem dX4_breaksAlone_151 : decode cX4_breaksAlone 151 = .ok (.if_icmp .ge 8, 3) := by decide +kernel
theorem dX4_breaksAlone_154 : decode cX4_breaksAlone 154 = .ok (.iload 7, 2) := by decide +kernel
theorem dX4_breaksAlone_156 : decode cX4_breaksAlone 156 = .ok (.goto 4, 3) := by decide +kernel
theorem dX4_breaksAlone_159 : decode cX4_breaksAlone 159 = .ok (.iload_n 3, 1) := by decide +kernel
theorem dX4_breaksAlone_160 : decode cX4_breaksAlone 160 = .ok (.istore_n 3, 1) := by decide +kernel
theorem dX4_breaksAlone_161 : decode cX4_breaksAlone 161 = .ok (.iinc 4 1, 3) := by decide +kernel
theorem dX4_breaksAlone_164 : decode cX4_breaksAlone 164 = .ok (.goto (-143), 3) := by decide +kernel
theorem dX4_breaksAlone_167 : decode cX4_breaksAlone 167 = .ok (.iload_n 3, 1) := by decide +kernel
theorem dX4_breaksAlone_168 : decode cX4_breaksAlone 168 = .ok (.ireturn, 1) := by decide +kernel
set_option maxRecDepth 20000 in
theorem ggX4_goesNear_X4_span : GoodIn wsX4_goesNear wsX4_span := goodIn_r _ [6, 7, 8, 9, 10, 11, 12, 13, 14, 15, 16, 17, 18, 19, 20, 21, 22, 23, 24, 25, 26, 27, 28, 29, 30, 31, 32, 33] (by decide +kernel) (by decide +kernel)
set_option maxRecDepth 20000 in
theorem gX4_goesNear_X4_span : GoodIn wsX4_goesNear (wsV RX4 98 RX4 yX4_span wsX4_span) := goodIn_app (goodIn_of _ (by decide +kernel)) ggX4_goesNear_X4_span
theorem dX4_goesNear_0 : decode cX4_goesNear 0 = .ok (.aload_n 0, 1) := by decide +kernel
theorem dX4_goesNear_1 : decode cX4_goesNear 1 = .ok (.getfield 16, 3) := by decide +kernel
theorem dX4_goesNear_4 : decode cX4_goesNear 4 = .ok (.iconst 4, 1) := by decide +kernel
theorem dX4_goesNear_5 : decode cX4_goesNear 5 = .ok (.iload_n 1, 1) := by decide +kernel
theorem dX4_goesNear_6 : decode cX4_goesNear 6 = .ok (.imul, 1) := by decide +kernel
theorem dX4_goesNear_7 : decode cX4_goesNear 7 = .ok (.iload_n 3, 1) := by decide +kernel
theorem dX4_goesNear_8 : decode cX4_goesNear 8 = .ok (.iadd, 1) := by decide +kernel
theorem dX4_goesNear_9 : decode cX4_goesNear 9 = .ok (.baload, 1) := by decide +kernel
theorem dX4_goesNear_10 : decode cX4_goesNear 10 = .ok (.ifCond .eq 27, 3) := by decide +kernel
theorem dX4_goesNear_13 : decode cX4_goesNear 13 = .ok (.iload_n 2, 1) := by decide +kernel
theorem dX4_goesNear_14 : decode cX4_goesNear 14 = .ok (.aload_n 0, 1) := by decide +kernel
theorem dX4_goesNear_15 : decode cX4_goesNear 15 = .ok (.iload_n 1, 1) := by decide +kernel
theorem dX4_goesNear_16 : decode cX4_goesNear 16 = .ok (.invokevirtual 98, 3) := by decide +kernel
theorem dX4_goesNear_19 : decode cX4_goesNear 19 = .ok (.iadd, 1) := by decide +kernel
theorem dX4_goesNear_20 : decode cX4_goesNear 20 = .ok (.iload 4, 2) := by decide +kernel
theorem dX4_goesNear_22 : decode cX4_goesNear 22 = .ok (.if_icmp .le 15, 3) := by decide +kernel
theorem dX4_goesNear_25 : decode cX4_goesNear 25 = .ok (.iload 4, 2) := by decide +kernel
theorem dX4_goesNear_27 : decode cX4_goesNear 27 = .ok (.aload_n 0, 1) := by decide +kernel
theorem dX4_goesNear_28 : decode cX4_goesNear 28 = .ok (.iload_n 3, 1) := by decide +kernel
theorem dX4_goesNear_29 : decode cX4_goesNear 29 = .ok (.invokevirtual 98, 3) := by decide +kernel
theorem dX4_goesNear_32 : decode cX4_goesNear 32 = .ok (.iadd, 1) := by decide +kernel
theorem dX4_goesNear_33 : decode cX4_goesNear 33 = .ok (.iload_n 2, 1) := by decide +kernel
theorem dX4_goesNear_34 : decode cX4_goesNear 34 = .ok (.if_icmp .gt 7, 3) := by decide +kernel
theorem dX4_goesNear_37 : decode cX4_goesNear 37 = .ok (.iconst 1, 1) := by decide +kernel
theorem dX4_goesNear_38 : decode cX4_goesNear 38 = .ok (.goto 4, 3) := by decide +kernel
theorem dX4_goesNear_41 : decode cX4_goesNear 41 = .ok (.iconst 0, 1) := by decide +kernel
theorem dX4_goesNear_42 : decode cX4_goesNear 42 = .ok (.ireturn, 1) := by decide +kernel
set_option maxRecDepth 20000 in
theorem ggX4_goesCrew_X4_span : GoodIn wsX4_goesCrew wsX4_span := goodIn_r _ [7, 8, 9, 10, 11, 12, 13, 14, 15, 16, 17, 18, 19, 20, 21, 22, 23, 24, 25, 26, 27, 28, 29, 30, 31, 32, 33, 34] (by decide +kernel) (by decide +kernel)
set_option maxRecDepth 20000 in
theorem gX4_goesCrew_X4_span : GoodIn wsX4_goesCrew (wsV RX4 98 RX4 yX4_span wsX4_span) := goodIn_app (goodIn_of _ (by decide +kernel)) ggX4_goesCrew_X4_span
theorem dX4_goesCrew_0 : decode cX4_goesCrew 0 = .ok (.aload_n 0, 1) := by decide +kernel
theorem dX4_goesCrew_1 : decode cX4_goesCrew 1 = .ok (.getfield 38, 3) := by decide +kernel
theorem dX4_goesCrew_4 : decode cX4_goesCrew 4 = .ok (.aload_n 0, 1) := by decide +kernel
theorem dX4_goesCrew_5 : decode cX4_goesCrew 5 = .ok (.getfield 35, 3) := by decide +kernel
theorem dX4_goesCrew_8 : decode cX4_goesCrew 8 = .ok (.iload_n 1, 1) := by decide +kernel
theorem dX4_goesCrew_9 : decode cX4_goesCrew 9 = .ok (.iaload, 1) := by decide +kernel
theorem dX4_goesCrew_10 : decode cX4_goesCrew 10 = .ok (.iaload, 1) := by decide +kernel
theorem dX4_goesCrew_11 : decode cX4_goesCrew 11 = .ok (.istore 5, 2) := by decide +kernel
theorem dX4_goesCrew_13 : decode cX4_goesCrew 13 = .ok (.aload_n 0, 1) := by decide +kernel
theorem dX4_goesCrew_14 : decode cX4_goesCrew 14 = .ok (.getfield 35, 3) := by decide +kernel
theorem dX4_goesCrew_17 : decode cX4_goesCrew 17 = .ok (.iload_n 1, 1) := by decide +kernel
theorem dX4_goesCrew_18 : decode cX4_goesCrew 18 = .ok (.iaload, 1) := by decide +kernel
theorem dX4_goesCrew_19 : decode cX4_goesCrew 19 = .ok (.aload_n 0, 1) := by decide +kernel
theorem dX4_goesCrew_20 : decode cX4_goesCrew 20 = .ok (.getfield 35, 3) := by decide +kernel
theorem dX4_goesCrew_23 : decode cX4_goesCrew 23 = .ok (.iload_n 3, 1) := by decide +kernel
theorem dX4_goesCrew_24 : decode cX4_goesCrew 24 = .ok (.iaload, 1) := by decide +kernel
theorem dX4_goesCrew_25 : decode cX4_goesCrew 25 = .ok (.if_icmp .ne 33, 3) := by decide +kernel
theorem dX4_goesCrew_28 : decode cX4_goesCrew 28 = .ok (.iload_n 2, 1) := by decide +kernel
theorem dX4_goesCrew_29 : decode cX4_goesCrew 29 = .ok (.aload_n 0, 1) := by decide +kernel
theorem dX4_goesCrew_30 : decode cX4_goesCrew 30 = .ok (.iload_n 1, 1) := by decide +kernel
theorem dX4_goesCrew_31 : decode cX4_goesCrew 31 = .ok (.invokevirtual 98, 3) := by decide +kernel
theorem dX4_goesCrew_34 : decode cX4_goesCrew 34 = .ok (.iadd, 1) := by decide +kernel
theorem dX4_goesCrew_35 : decode cX4_goesCrew 35 = .ok (.iload 5, 2) := by decide +kernel
theorem dX4_goesCrew_37 : decode cX4_goesCrew 37 = .ok (.iadd, 1) := by decide +kernel
theorem dX4_goesCrew_38 : decode cX4_goesCrew 38 = .ok (.iload 4, 2) := by decide +kernel
theorem dX4_goesCrew_40 : decode cX4_goesCrew 40 = .ok (.if_icmp .le 18, 3) := by decide +kernel
theorem dX4_goesCrew_43 : decode cX4_goesCrew 43 = .ok (.iload 4, 2) := by decide +kernel
theorem dX4_goesCrew_45 : decode cX4_goesCrew 45 = .ok (.aload_n 0, 1) := by decide +kernel
theorem dX4_goesCrew_46 : decode cX4_goesCrew 46 = .ok (.iload_n 3, 1) := by decide +kernel
theorem dX4_goesCrew_47 : decode cX4_goesCrew 47 = .ok (.invokevirtual 98, 3) := by decide +kernel
theorem dX4_goesCrew_50 : decode cX4_goesCrew 50 = .ok (.iadd, 1) := by decide +kernel
theorem dX4_goesCrew_51 : decode cX4_goesCrew 51 = .ok (.iload 5, 2) := by decide +kernel
theorem dX4_goesCrew_53 : decode cX4_goesCrew 53 = .ok (.iadd, 1) := by decide +kernel
theorem dX4_goesCrew_54 : decode cX4_goesCrew 54 = .ok (.iload_n 2, 1) := by decide +kernel
theorem dX4_goesCrew_55 : decode cX4_goesCrew 55 = .ok (.if_icmp .gt 7, 3) := by decide +kernel
theorem dX4_goesCrew_58 : decode cX4_goesCrew 58 = .ok (.iconst 1, 1) := by decide +kernel
theorem dX4_goesCrew_59 : decode cX4_goesCrew 59 = .ok (.goto 4, 3) := by decide +kernel
theorem dX4_goesCrew_62 : decode cX4_goesCrew 62 = .ok (.iconst 0, 1) := by decide +kernel
theorem dX4_goesCrew_63 : decode cX4_goesCrew 63 = .ok (.ireturn, 1) := by decide +kernel
set_option maxRecDepth 20000 in
theorem ggX4_breaks_X4_breaksAlone : GoodIn wsX4_breaks wsX4_breaksAlone := goodIn_r _ [7, 8, 9, 10, 11, 12, 13, 14, 15, 16, 6, 17, 18, 30, 31, 32, 33, 34, 35, 36, 37, 38, 39, 40, 41, 42, 43, 44, 45, 46, 47, 48, 49, 50, 51, 52, 53, 54] (by decide +kernel) (by decide +kernel)
set_option maxRecDepth 20000 in
theorem gX4_breaks_X4_breaksAlone : GoodIn wsX4_breaks (wsV RX4 102 RX4 yX4_breaksAlone wsX4_breaksAlone) := goodIn_app (goodIn_of _ (by decide +kernel)) ggX4_breaks_X4_breaksAlone
set_option maxRecDepth 20000 in
theorem ggX4_breaks_X4_goesNear : GoodIn wsX4_breaks wsX4_goesNear := goodIn_r _ [22, 23, 14, 15, 16, 6, 17, 11, 18, 30, 31, 32, 33, 34, 35, 36, 37, 38, 39, 40, 41, 42, 43, 44, 45, 46, 47, 48, 49, 50, 51, 52, 53, 54] (by decide +kernel) (by decide +kernel)
set_option maxRecDepth 20000 in
theorem gX4_breaks_X4_goesNear : GoodIn wsX4_breaks (wsV RX4 106 RX4 yX4_goesNear wsX4_goesNear) := goodIn_app (goodIn_of _ (by decide +kernel)) ggX4_breaks_X4_goesNear
set_option maxRecDepth 20000 in
theorem ggX4_breaks_X4_goesCrew : GoodIn wsX4_breaks wsX4_goesCrew := goodIn_r _ [27, 28, 29, 14, 15, 16, 6, 17, 11, 18, 30, 31, 32, 33, 34, 35, 36, 37, 38, 39, 40, 41, 42, 43, 44, 45, 46, 47, 48, 49, 50, 51, 52, 53, 54] (by decide +kernel) (by decide +kernel)
set_option maxRecDepth 20000 in
theorem gX4_breaks_X4_goesCrew : GoodIn wsX4_breaks (wsV RX4 110 RX4 yX4_goesCrew wsX4_goesCrew) := goodIn_app (goodIn_of _ (by decide +kernel)) ggX4_breaks_X4_goesCrew
theorem dX4_breaks_0 : decode cX4_breaks 0 = .ok (.aload_n 0, 1) := by decide +kernel
theorem dX4_breaks_1 : decode cX4_breaks 1 = .ok (.iload_n 1, 1) := by decide +kernel
theorem dX4_breaks_2 : decode cX4_breaks 2 = .ok (.iload_n 2, 1) := by decide +kernel
theorem dX4_breaks_3 : decode cX4_breaks 3 = .ok (.invokevirtual 102, 3) := by decide +kernel
theorem dX4_breaks_6 : decode cX4_breaks 6 = .ok (.istore_n 3, 1) := by decide +kernel
theorem dX4_breaks_7 : decode cX4_breaks 7 = .ok (.iload_n 3, 1) := by decide +kernel
theorem dX4_breaks_8 : decode cX4_breaks 8 = .ok (.ifCond .le 5, 3) := by decide +kernel
theorem dX4_breaks_11 : decode cX4_breaks 11 = .ok (.iload_n 3, 1) := by decide +kernel
theorem dX4_breaks_12 : decode cX4_breaks 12 = .ok (.ireturn, 1) := by decide +kernel
theorem dX4_breaks_13 : decode cX4_breaks 13 = .ok (.iconst 0, 1) := by decide +kernel
theorem dX4_breaks_14 : decode cX4_breaks 14 = .ok (.istore 4, 2) := by decide +kernel
theorem dX4_breaks_16 : decode cX4_breaks 16 = .ok (.iconst 0, 1) := by decide +kernel
theorem dX4_breaks_17 : decode cX4_breaks 17 = .ok (.istore 5, 2) := by decide +kernel
theorem dX4_breaks_19 : decode cX4_breaks 19 = .ok (.iconst 0, 1) := by decide +kernel
theorem dX4_breaks_20 : decode cX4_breaks 20 = .ok (.istore 6, 2) := by decide +kernel
theorem dX4_breaks_22 : decode cX4_breaks 22 = .ok (.iload 6, 2) := by decide +kernel
theorem dX4_breaks_24 : decode cX4_breaks 24 = .ok (.aload_n 0, 1) := by decide +kernel
theorem dX4_breaks_25 : decode cX4_breaks 25 = .ok (.getfield 78, 3) := by decide +kernel
theorem dX4_breaks_28 : decode cX4_breaks 28 = .ok (.if_icmp .ge 86, 3) := by decide +kernel
theorem dX4_breaks_31 : decode cX4_breaks 31 = .ok (.iload 6, 2) := by decide +kernel
theorem dX4_breaks_33 : decode cX4_breaks 33 = .ok (.iload_n 1, 1) := by decide +kernel
theorem dX4_breaks_34 : decode cX4_breaks 34 = .ok (.if_icmp .eq 74, 3) := by decide +kernel
theorem dX4_breaks_37 : decode cX4_breaks 37 = .ok (.aload_n 0, 1) := by decide +kernel
theorem dX4_breaks_38 : decode cX4_breaks 38 = .ok (.getfield 44, 3) := by decide +kernel
theorem dX4_breaks_41 : decode cX4_breaks 41 = .ok (.iload 6, 2) := by decide +kernel
theorem dX4_breaks_43 : decode cX4_breaks 43 = .ok (.iaload, 1) := by decide +kernel
theorem dX4_breaks_44 : decode cX4_breaks 44 = .ok (.iconst (-1), 1) := by decide +kernel
theorem dX4_breaks_45 : decode cX4_breaks 45 = .ok (.if_icmp .eq 63, 3) := by decide +kernel
theorem dX4_breaks_48 : decode cX4_breaks 48 = .ok (.iload 4, 2) := by decide +kernel
theorem dX4_breaks_50 : decode cX4_breaks 50 = .ok (.ifCond .ne 21, 3) := by decide +kernel
theorem dX4_breaks_53 : decode cX4_breaks 53 = .ok (.aload_n 0, 1) := by decide +kernel
theorem dX4_breaks_54 : decode cX4_breaks 54 = .ok (.iload_n 1, 1) := by decide +kernel
theorem dX4_breaks_55 : decode cX4_breaks 55 = .ok (.iload_n 2, 1) := by decide +kernel
theorem dX4_breaks_56 : decode cX4_breaks 56 = .ok (.iload 6, 2) := by decide +kernel
theorem dX4_breaks_58 : decode cX4_breaks 58 = .ok (.aload_n 0, 1) := by decide +kernel
theorem dX4_breaks_59 : decode cX4_breaks 59 = .ok (.getfield 44, 3) := by decide +kernel
theorem dX4_breaks_62 : decode cX4_breaks 62 = .ok (.iload 6, 2) := by decide +kernel
theorem dX4_breaks_64 : decode cX4_breaks 64 = .ok (.iaload, 1) := by decide +kernel
theorem dX4_breaks_65 : decode cX4_breaks 65 = .ok (.invokevirtual 106, 3) := by decide +kernel
theorem dX4_breaks_68 : decode cX4_breaks 68 = .ok (.ifCond .ne 7, 3) := by decide +kernel
theorem dX4_breaks_71 : decode cX4_breaks 71 = .ok (.iconst 1, 1) := by decide +kernel
theorem dX4_breaks_72 : decode cX4_breaks 72 = .ok (.goto 4, 3) := by decide +kernel
theorem dX4_breaks_75 : decode cX4_breaks 75 = .ok (.iconst 0, 1) := by decide +kernel
theorem dX4_breaks_76 : decode cX4_breaks 76 = .ok (.istore 4, 2) := by decide +kernel
theorem dX4_breaks_78 : decode cX4_breaks 78 = .ok (.iload 5, 2) := by decide +kernel
theorem dX4_breaks_80 : decode cX4_breaks 80 = .ok (.ifCond .ne 21, 3) := by decide +kernel
theorem dX4_breaks_83 : decode cX4_breaks 83 = .ok (.aload_n 0, 1) := by decide +kernel
theorem dX4_breaks_84 : decode cX4_breaks 84 = .ok (.iload_n 1, 1) := by decide +kernel
theorem dX4_breaks_85 : decode cX4_breaks 85 = .ok (.iload_n 2, 1) := by decide +kernel
theorem dX4_breaks_86 : decode cX4_breaks 86 = .ok (.iload 6, 2) := by decide +kernel
theorem dX4_breaks_88 : decode cX4_breaks 88 = .ok (.aload_n 0, 1) := by decide +kernel
theorem dX4_breaks_89 : decode cX4_breaks 89 = .ok (.getfield 44, 3) := by decide +kernel
theorem dX4_breaks_92 : decode cX4_breaks 92 = .ok (.iload 6, 2) := by decide +kernel
theorem dX4_breaks_94 : decode cX4_breaks 94 = .ok (.iaload, 1) := by decide +kernel
theorem dX4_breaks_95 : decode cX4_breaks 95 = .ok (.invokevirtual 110, 3) := by decide +kernel
theorem dX4_breaks_98 : decode cX4_breaks 98 = .ok (.ifCond .ne 7, 3) := by decide +kernel
theorem dX4_breaks_101 : decode cX4_breaks 101 = .ok (.iconst 1, 1) := by decide +kernel
theorem dX4_breaks_102 : decode cX4_breaks 102 = .ok (.goto 4, 3) := by decide +kernel
theorem dX4_breaks_105 : decode cX4_breaks 105 = .ok (.iconst 0, 1) := by decide +kernel
theorem dX4_breaks_106 : decode cX4_breaks 106 = .ok (.istore 5, 2) := by decide +kernel
theorem dX4_breaks_108 : decode cX4_breaks 108 = .ok (.iinc 6 1, 3) := by decide +kernel
theorem dX4_breaks_111 : decode cX4_breaks 111 = .ok (.goto (-89), 3) := by decide +kernel
theorem dX4_breaks_114 : decode cX4_breaks 114 = .ok (.iload 4, 2) := by decide +kernel
theorem dX4_breaks_116 : decode cX4_breaks 116 = .ok (.ifCond .eq 7, 3) := by decide +kernel
theorem dX4_breaks_119 : decode cX4_breaks 119 = .ok (.iconst 5, 1) := by decide +kernel
theorem dX4_breaks_120 : decode cX4_breaks 120 = .ok (.goto 14, 3) := by decide +kernel
theorem dX4_breaks_123 : decode cX4_breaks 123 = .ok (.iload 5, 2) := by decide +kernel
theorem dX4_breaks_125 : decode cX4_breaks 125 = .ok (.ifCond .eq 8, 3) := by decide +kernel
theorem dX4_breaks_128 : decode cX4_breaks 128 = .ok (.bipush 6, 2) := by decide +kernel
theorem dX4_breaks_130 : decode cX4_breaks 130 = .ok (.goto 4, 3) := by decide +kernel
theorem dX4_breaks_133 : decode cX4_breaks 133 = .ok (.iconst 0, 1) := by decide +kernel
theorem dX4_breaks_134 : decode cX4_breaks 134 = .ok (.ireturn, 1) := by decide +kernel
set_option maxRecDepth 20000 in
theorem ggX4_delayOf_X4_span : GoodIn wsX4_delayOf wsX4_span := goodIn_r _ [6, 7, 8, 9, 10, 11, 12, 13, 14, 15, 16, 17, 18, 19, 20, 21, 22, 23, 24, 25, 26, 27, 28, 29, 30, 31, 32, 33] (by decide +kernel) (by decide +kernel)
set_option maxRecDepth 20000 in
theorem gX4_delayOf_X4_span : GoodIn wsX4_delayOf (wsV RX4 98 RX4 yX4_span wsX4_span) := goodIn_app (goodIn_of _ (by decide +kernel)) ggX4_delayOf_X4_span
theorem dX4_delayOf_0 : decode cX4_delayOf 0 = .ok (.iconst 0, 1) := by decide +kernel
theorem dX4_delayOf_1 : decode cX4_delayOf 1 = .ok (.istore_n 3, 1) := by decide +kernel
theorem dX4_delayOf_2 : decode cX4_delayOf 2 = .ok (.iload_n 2, 1) := by decide +kernel
theorem dX4_delayOf_3 : decode cX4_delayOf 3 = .ok (.istore 4, 2) := by decide +kernel
theorem dX4_delayOf_5 : decode cX4_delayOf 5 = .ok (.iload 4, 2) := by decide +kernel
theorem dX4_delayOf_7 : decode cX4_delayOf 7 = .ok (.iload_n 2, 1) := by decide +kernel
theorem dX4_delayOf_8 : decode cX4_delayOf 8 = .ok (.aload_n 0, 1) := by decide +kernel
theorem dX4_delayOf_9 : decode cX4_delayOf 9 = .ok (.iload_n 1, 1) := by decide +kernel
theorem dX4_delayOf_10 : decode cX4_delayOf 10 = .ok (.invokevirtual 98, 3) := by decide +kernel
theorem dX4_delayOf_13 : decode cX4_delayOf 13 = .ok (.iadd, 1) := by decide +kernel
theorem dX4_delayOf_14 : decode cX4_delayOf 14 = .ok (.if_icmp .ge 24, 3) := by decide +kernel
theorem dX4_delayOf_17 : decode cX4_delayOf 17 = .ok (.iload_n 3, 1) := by decide +kernel
theorem dX4_delayOf_18 : decode cX4_delayOf 18 = .ok (.aload_n 0, 1) := by decide +kernel
theorem dX4_delayOf_19 : decode cX4_delayOf 19 = .ok (.getfield 20, 3) := by decide +kernel
theorem dX4_delayOf_22 : decode cX4_delayOf 22 = .ok (.bipush 36, 2) := by decide +kernel
theorem dX4_delayOf_24 : decode cX4_delayOf 24 = .ok (.iload_n 1, 1) := by decide +kernel
theorem dX4_delayOf_25 : decode cX4_delayOf 25 = .ok (.imul, 1) := by decide +kernel
theorem dX4_delayOf_26 : decode cX4_delayOf 26 = .ok (.iload 4, 2) := by decide +kernel
theorem dX4_delayOf_28 : decode cX4_delayOf 28 = .ok (.iadd, 1) := by decide +kernel
theorem dX4_delayOf_29 : decode cX4_delayOf 29 = .ok (.iaload, 1) := by decide +kernel
theorem dX4_delayOf_30 : decode cX4_delayOf 30 = .ok (.iadd, 1) := by decide +kernel
theorem dX4_delayOf_31 : decode cX4_delayOf 31 = .ok (.istore_n 3, 1) := by decide +kernel
theorem dX4_delayOf_32 : decode cX4_delayOf 32 = .ok (.iinc 4 1, 3) := by decide +kernel
theorem dX4_delayOf_35 : decode cX4_delayOf 35 = .ok (.goto (-30), 3) := by decide +kernel
theorem dX4_delayOf_38 : decode cX4_delayOf 38 = .ok (.iload_n 3, 1) := by decide +kernel
theorem dX4_delayOf_39 : decode cX4_delayOf 39 = .ok (.ireturn, 1) := by decide +kernel
theorem dX4_beginMoves_0 : decode cX4_beginMoves 0 = .ok (.iconst 0, 1) := by decide +kernel
theorem dX4_beginMoves_1 : decode cX4_beginMoves 1 = .ok (.istore_n 1, 1) := by decide +kernel
theorem dX4_beginMoves_2 : decode cX4_beginMoves 2 = .ok (.iload_n 1, 1) := by decide +kernel
theorem dX4_beginMoves_3 : decode cX4_beginMoves 3 = .ok (.iconst 4, 1) := by decide +kernel
theorem dX4_beginMoves_4 : decode cX4_beginMoves 4 = .ok (.if_icmp .ge 16, 3) := by decide +kernel
theorem dX4_beginMoves_7 : decode cX4_beginMoves 7 = .ok (.aload_n 0, 1) := by decide +kernel
theorem dX4_beginMoves_8 : decode cX4_beginMoves 8 = .ok (.getfield 65, 3) := by decide +kernel
theorem dX4_beginMoves_11 : decode cX4_beginMoves 11 = .ok (.iload_n 1, 1) := by decide +kernel
theorem dX4_beginMoves_12 : decode cX4_beginMoves 12 = .ok (.iconst 0, 1) := by decide +kernel
theorem dX4_beginMoves_13 : decode cX4_beginMoves 13 = .ok (.bastore, 1) := by decide +kernel
theorem dX4_beginMoves_14 : decode cX4_beginMoves 14 = .ok (.iinc 1 1, 3) := by decide +kernel
theorem dX4_beginMoves_17 : decode cX4_beginMoves 17 = .ok (.goto (-15), 3) := by decide +kernel
theorem dX4_beginMoves_20 : decode cX4_beginMoves 20 = .ok (.return_, 1) := by decide +kernel
theorem dX4_move_0 : decode cX4_move 0 = .ok (.aload_n 0, 1) := by decide +kernel
theorem dX4_move_1 : decode cX4_move 1 = .ok (.getfield 44, 3) := by decide +kernel
theorem dX4_move_4 : decode cX4_move 4 = .ok (.iload_n 1, 1) := by decide +kernel
theorem dX4_move_5 : decode cX4_move 5 = .ok (.iaload, 1) := by decide +kernel
theorem dX4_move_6 : decode cX4_move 6 = .ok (.iload_n 2, 1) := by decide +kernel
theorem dX4_move_7 : decode cX4_move 7 = .ok (.if_icmp .ne 4, 3) := by decide +kernel
theorem dX4_move_10 : decode cX4_move 10 = .ok (.return_, 1) := by decide +kernel
theorem dX4_move_11 : decode cX4_move 11 = .ok (.aload_n 0, 1) := by decide +kernel
theorem dX4_move_12 : decode cX4_move 12 = .ok (.getfield 44, 3) := by decide +kernel
theorem dX4_move_15 : decode cX4_move 15 = .ok (.iload_n 1, 1) := by decide +kernel
theorem dX4_move_16 : decode cX4_move 16 = .ok (.iload_n 2, 1) := by decide +kernel
theorem dX4_move_17 : decode cX4_move 17 = .ok (.iastore, 1) := by decide +kernel
theorem dX4_move_18 : decode cX4_move 18 = .ok (.aload_n 0, 1) := by decide +kernel
theorem dX4_move_19 : decode cX4_move 19 = .ok (.getfield 65, 3) := by decide +kernel
theorem dX4_move_22 : decode cX4_move 22 = .ok (.iload_n 1, 1) := by decide +kernel
theorem dX4_move_23 : decode cX4_move 23 = .ok (.iconst 1, 1) := by decide +kernel
theorem dX4_move_24 : decode cX4_move 24 = .ok (.bastore, 1) := by decide +kernel
theorem dX4_move_25 : decode cX4_move 25 = .ok (.aload_n 0, 1) := by decide +kernel
theorem dX4_move_26 : decode cX4_move 26 = .ok (.getfield 41, 3) := by decide +kernel
theorem dX4_move_29 : decode cX4_move 29 = .ok (.iload_n 1, 1) := by decide +kernel
theorem dX4_move_30 : decode cX4_move 30 = .ok (.iconst 0, 1) := by decide +kernel
theorem dX4_move_31 : decode cX4_move 31 = .ok (.iastore, 1) := by decide +kernel
theorem dX4_move_32 : decode cX4_move 32 = .ok (.aload_n 0, 1) := by decide +kernel
theorem dX4_move_33 : decode cX4_move 33 = .ok (.getfield 113, 3) := by decide +kernel
theorem dX4_move_36 : decode cX4_move 36 = .ok (.sipush 200, 3) := by decide +kernel
theorem dX4_move_39 : decode cX4_move 39 = .ok (.if_icmp .ge 23, 3) := by decide +kernel
theorem dX4_move_42 : decode cX4_move 42 = .ok (.aload_n 0, 1) := by decide +kernel
theorem dX4_move_43 : decode cX4_move 43 = .ok (.getfield 68, 3) := by decide +kernel
theorem dX4_move_46 : decode cX4_move 46 = .ok (.aload_n 0, 1) := by decide +kernel
theorem dX4_move_47 : decode cX4_move 47 = .ok (.getfield 113, 3) := by decide +kernel
theorem dX4_move_50 : decode cX4_move 50 = .ok (.iload_n 1, 1) := by decide +kernel
theorem dX4_move_51 : decode cX4_move 51 = .ok (.iastore, 1) := by decide +kernel
theorem dX4_move_52 : decode cX4_move 52 = .ok (.aload_n 0, 1) := by decide +kernel
theorem dX4_move_53 : decode cX4_move 53 = .ok (.getfield 71, 3) := by decide +kernel
theorem dX4_move_56 : decode cX4_move 56 = .ok (.aload_n 0, 1) := by decide +kernel
theorem dX4_move_57 : decode cX4_move 57 = .ok (.getfield 113, 3) := by decide +kernel
theorem dX4_move_60 : decode cX4_move 60 = .ok (.iload_n 2, 1) := by decide +kernel
theorem dX4_move_61 : decode cX4_move 61 = .ok (.iastore, 1) := by decide +kernel
theorem dX4_move_62 : decode cX4_move 62 = .ok (.aload_n 0, 1) := by decide +kernel
theorem dX4_move_63 : decode cX4_move 63 = .ok (.dup, 1) := by decide +kernel
theorem dX4_move_64 : decode cX4_move 64 = .ok (.getfield 113, 3) := by decide +kernel
theorem dX4_move_67 : decode cX4_move 67 = .ok (.iconst 1, 1) := by decide +kernel
theorem dX4_move_68 : decode cX4_move 68 = .ok (.iadd, 1) := by decide +kernel
theorem dX4_move_69 : decode cX4_move 69 = .ok (.putfield 113, 3) := by decide +kernel
theorem dX4_move_72 : decode cX4_move 72 = .ok (.return_, 1) := by decide +kernel
set_option maxRecDepth 20000 in
theorem ggX4_run_X4_isWork : GoodIn wsX4_run wsX4_isWork := goodIn_r _ [6, 7, 60, 61, 62, 63, 64, 65, 66, 67, 68, 69, 70, 71, 72, 73, 74, 75, 76, 77, 78, 79, 80, 81, 82, 83, 84] (by decide +kernel) (by decide +kernel)
set_option maxRecDepth 20000 in
theorem gX4_run_X4_isWork : GoodIn wsX4_run (wsV RX4 85 RX4 yX4_isWork wsX4_isWork) := goodIn_app (goodIn_of _ (by decide +kernel)) ggX4_run_X4_isWork
set_option maxRecDepth 20000 in
theorem ggX4_run_X4_isFixed : GoodIn wsX4_run wsX4_isFixed := goodIn_r _ [11, 12, 60, 61, 62, 63, 64, 65, 66, 67, 68, 69, 70, 71, 72, 73, 74, 75, 76, 77, 78, 79, 80, 81, 82, 83, 84] (by decide +kernel) (by decide +kernel)
set_option maxRecDepth 20000 in
theorem gX4_run_X4_isFixed : GoodIn wsX4_run (wsV RX4 116 RX4 yX4_isFixed wsX4_isFixed) := goodIn_app (goodIn_of _ (by decide +kernel)) ggX4_run_X4_isFixed
set_option maxRecDepth 20000 in
theorem ggX4_run_X4_breaks : GoodIn wsX4_run wsX4_breaks := goodIn_r _ [16, 7, 17, 18, 19, 20, 5, 21, 1, 22, 23, 24, 25, 26, 27, 28, 29, 30, 31, 32, 33, 34, 35, 36, 37, 38, 39, 40, 41, 42, 60, 61, 62, 63, 64, 65, 66, 67, 68, 69, 70, 71, 72, 73, 74, 75, 76, 77, 78, 79, 80, 81, 82, 83, 84] (by decide +kernel) (by decide +kernel)
set_option maxRecDepth 20000 in
theorem gX4_run_X4_breaks : GoodIn wsX4_run (wsV RX4 119 RX4 yX4_breaks wsX4_breaks) := goodIn_app (goodIn_of _ (by decide +kernel)) ggX4_run_X4_breaks
set_option maxRecDepth 20000 in
theorem ggX4_run_X4_delayOf : GoodIn wsX4_run wsX4_delayOf := goodIn_r _ [46, 47, 27, 28, 29, 5, 30, 24, 31, 60, 61, 62, 63, 64, 65, 66, 67, 68, 69, 70, 71, 72, 73, 74, 75, 76, 77, 78, 79, 80, 81, 82, 83, 84] (by decide +kernel) (by decide +kernel)
set_option maxRecDepth 20000 in
theorem gX4_run_X4_delayOf : GoodIn wsX4_run (wsV RX4 122 RX4 yX4_delayOf wsX4_delayOf) := goodIn_app (goodIn_of _ (by decide +kernel)) ggX4_run_X4_delayOf
set_option maxRecDepth 20000 in
theorem ggX4_run_X4_beginMoves : GoodIn wsX4_run wsX4_beginMoves := goodIn_r _ [51, 52, 60, 61, 62, 63, 64, 65, 66, 67, 68, 69, 70, 71, 72, 73, 74, 75, 76, 77, 78, 79, 80, 81, 82, 83, 84] (by decide +kernel) (by decide +kernel)
set_option maxRecDepth 20000 in
theorem gX4_run_X4_beginMoves : GoodIn wsX4_run (wsV RX4 125 RX4 yX4_beginMoves wsX4_beginMoves) := goodIn_app (goodIn_of _ (by decide +kernel)) ggX4_run_X4_beginMoves
set_option maxRecDepth 20000 in
theorem ggX4_run_X4_move : GoodIn wsX4_run wsX4_move := goodIn_r _ [56, 17, 52, 12, 57, 58, 59, 60, 61, 62, 63, 64, 65, 66, 67, 68, 69, 70, 71, 72, 73, 74, 75, 76, 77, 78, 79, 80, 81, 82, 83, 84] (by decide +kernel) (by decide +kernel)
set_option maxRecDepth 20000 in
theorem gX4_run_X4_move : GoodIn wsX4_run (wsV RX4 128 RX4 yX4_move wsX4_move) := goodIn_app (goodIn_of _ (by decide +kernel)) ggX4_run_X4_move
theorem dX4_run_0 : decode cX4_run 0 = .ok (.aload_n 0, 1) := by decide +kernel
theorem dX4_run_1 : decode cX4_run 1 = .ok (.iload_n 1, 1) := by decide +kernel
theorem dX4_run_2 : decode cX4_run 2 = .ok (.invokevirtual 85, 3) := by decide +kernel
theorem dX4_run_5 : decode cX4_run 5 = .ok (.ifCond .eq 11, 3) := by decide +kernel
theorem dX4_run_8 : decode cX4_run 8 = .ok (.aload_n 0, 1) := by decide +kernel
theorem dX4_run_9 : decode cX4_run 9 = .ok (.iload_n 1, 1) := by decide +kernel
theorem dX4_run_10 : decode cX4_run 10 = .ok (.invokevirtual 116, 3) := by decide +kernel
theorem dX4_run_13 : decode cX4_run 13 = .ok (.ifCond .eq 6, 3) := by decide +kernel
theorem dX4_run_16 : decode cX4_run 16 = .ok (.bipush (-100), 2) := by decide +kernel
theorem dX4_run_18 : decode cX4_run 18 = .ok (.ireturn, 1) := by decide +kernel
theorem dX4_run_19 : decode cX4_run 19 = .ok (.iconst (-1), 1) := by decide +kernel
theorem dX4_run_20 : decode cX4_run 20 = .ok (.istore_n 2, 1) := by decide +kernel
theorem dX4_run_21 : decode cX4_run 21 = .ok (.iconst 0, 1) := by decide +kernel
theorem dX4_run_22 : decode cX4_run 22 = .ok (.istore_n 3, 1) := by decide +kernel
theorem dX4_run_23 : decode cX4_run 23 = .ok (.iconst 0, 1) := by decide +kernel
theorem dX4_run_24 : decode cX4_run 24 = .ok (.istore 4, 2) := by decide +kernel
theorem dX4_run_26 : decode cX4_run 26 = .ok (.iload 4, 2) := by decide +kernel
theorem dX4_run_28 : decode cX4_run 28 = .ok (.aload_n 0, 1) := by decide +kernel
theorem dX4_run_29 : decode cX4_run 29 = .ok (.getfield 74, 3) := by decide +kernel
theorem dX4_run_32 : decode cX4_run 32 = .ok (.if_icmp .ge 60, 3) := by decide +kernel
theorem dX4_run_35 : decode cX4_run 35 = .ok (.aload_n 0, 1) := by decide +kernel
theorem dX4_run_36 : decode cX4_run 36 = .ok (.iload_n 1, 1) := by decide +kernel
theorem dX4_run_37 : decode cX4_run 37 = .ok (.iload 4, 2) := by decide +kernel
theorem dX4_run_39 : decode cX4_run 39 = .ok (.invokevirtual 119, 3) := by decide +kernel
theorem dX4_run_42 : decode cX4_run 42 = .ok (.istore 5, 2) := by decide +kernel
theorem dX4_run_44 : decode cX4_run 44 = .ok (.iload 5, 2) := by decide +kernel
theorem dX4_run_46 : decode cX4_run 46 = .ok (.iload_n 3, 1) := by decide +kernel
theorem dX4_run_47 : decode cX4_run 47 = .ok (.if_icmp .le 8, 3) := by decide +kernel
theorem dX4_run_50 : decode cX4_run 50 = .ok (.iload 5, 2) := by decide +kernel
theorem dX4_run_52 : decode cX4_run 52 = .ok (.goto 4, 3) := by decide +kernel
theorem dX4_run_55 : decode cX4_run 55 = .ok (.iload_n 3, 1) := by decide +kernel
theorem dX4_run_56 : decode cX4_run 56 = .ok (.istore_n 3, 1) := by decide +kernel
theorem dX4_run_57 : decode cX4_run 57 = .ok (.iload 5, 2) := by decide +kernel
theorem dX4_run_59 : decode cX4_run 59 = .ok (.ifCond .ne 27, 3) := by decide +kernel
theorem dX4_run_62 : decode cX4_run 62 = .ok (.iload_n 2, 1) := by decide +kernel
theorem dX4_run_63 : decode cX4_run 63 = .ok (.iconst (-1), 1) := by decide +kernel
theorem dX4_run_64 : decode cX4_run 64 = .ok (.if_icmp .eq 19, 3) := by decide +kernel
theorem dX4_run_67 : decode cX4_run 67 = .ok (.aload_n 0, 1) := by decide +kernel
theorem dX4_run_68 : decode cX4_run 68 = .ok (.iload_n 1, 1) := by decide +kernel
theorem dX4_run_69 : decode cX4_run 69 = .ok (.iload 4, 2) := by decide +kernel
theorem dX4_run_71 : decode cX4_run 71 = .ok (.invokevirtual 122, 3) := by decide +kernel
theorem dX4_run_74 : decode cX4_run 74 = .ok (.aload_n 0, 1) := by decide +kernel
theorem dX4_run_75 : decode cX4_run 75 = .ok (.iload_n 1, 1) := by decide +kernel
theorem dX4_run_76 : decode cX4_run 76 = .ok (.iload_n 2, 1) := by decide +kernel
theorem dX4_run_77 : decode cX4_run 77 = .ok (.invokevirtual 122, 3) := by decide +kernel
theorem dX4_run_80 : decode cX4_run 80 = .ok (.if_icmp .ge 6, 3) := by decide +kernel
theorem dX4_run_83 : decode cX4_run 83 = .ok (.iload 4, 2) := by decide +kernel
theorem dX4_run_85 : decode cX4_run 85 = .ok (.istore_n 2, 1) := by decide +kernel
theorem dX4_run_86 : decode cX4_run 86 = .ok (.iinc 4 1, 3) := by decide +kernel
theorem dX4_run_89 : decode cX4_run 89 = .ok (.goto (-63), 3) := by decide +kernel
theorem dX4_run_92 : decode cX4_run 92 = .ok (.iload_n 2, 1) := by decide +kernel
theorem dX4_run_93 : decode cX4_run 93 = .ok (.iconst (-1), 1) := by decide +kernel
theorem dX4_run_94 : decode cX4_run 94 = .ok (.if_icmp .ne 7, 3) := by decide +kernel
theorem dX4_run_97 : decode cX4_run 97 = .ok (.iconst (-1), 1) := by decide +kernel
theorem dX4_run_98 : decode cX4_run 98 = .ok (.iload_n 3, 1) := by decide +kernel
theorem dX4_run_99 : decode cX4_run 99 = .ok (.isub, 1) := by decide +kernel
theorem dX4_run_100 : decode cX4_run 100 = .ok (.ireturn, 1) := by decide +kernel
theorem dX4_run_101 : decode cX4_run 101 = .ok (.aload_n 0, 1) := by decide +kernel
theorem dX4_run_102 : decode cX4_run 102 = .ok (.invokevirtual 125, 3) := by decide +kernel
theorem dX4_run_105 : decode cX4_run 105 = .ok (.aload_n 0, 1) := by decide +kernel
theorem dX4_run_106 : decode cX4_run 106 = .ok (.iload_n 1, 1) := by decide +kernel
theorem dX4_run_107 : decode cX4_run 107 = .ok (.iload_n 2, 1) := by decide +kernel
theorem dX4_run_108 : decode cX4_run 108 = .ok (.invokevirtual 128, 3) := by decide +kernel
theorem dX4_run_111 : decode cX4_run 111 = .ok (.iload_n 2, 1) := by decide +kernel
theorem dX4_run_112 : decode cX4_run 112 = .ok (.ireturn, 1) := by decide +kernel
set_option maxRecDepth 20000 in
theorem ggX4_drop_X4_isWork : GoodIn wsX4_drop wsX4_isWork := goodIn_r _ [6, 7, 25, 26, 27, 28, 29, 30, 31, 32, 33, 34, 35, 36, 37, 38, 39, 40, 41, 42, 43, 44, 45, 46, 47, 48, 49] (by decide +kernel) (by decide +kernel)
set_option maxRecDepth 20000 in
theorem gX4_drop_X4_isWork : GoodIn wsX4_drop (wsV RX4 85 RX4 yX4_isWork wsX4_isWork) := goodIn_app (goodIn_of _ (by decide +kernel)) ggX4_drop_X4_isWork
set_option maxRecDepth 20000 in
theorem ggX4_drop_X4_isFixed : GoodIn wsX4_drop wsX4_isFixed := goodIn_r _ [11, 12, 25, 26, 27, 28, 29, 30, 31, 32, 33, 34, 35, 36, 37, 38, 39, 40, 41, 42, 43, 44, 45, 46, 47, 48, 49] (by decide +kernel) (by decide +kernel)
set_option maxRecDepth 20000 in
theorem gX4_drop_X4_isFixed : GoodIn wsX4_drop (wsV RX4 116 RX4 yX4_isFixed wsX4_isFixed) := goodIn_app (goodIn_of _ (by decide +kernel)) ggX4_drop_X4_isFixed
set_option maxRecDepth 20000 in
theorem ggX4_drop_X4_beginMoves : GoodIn wsX4_drop wsX4_beginMoves := goodIn_r _ [16, 17, 25, 26, 27, 28, 29, 30, 31, 32, 33, 34, 35, 36, 37, 38, 39, 40, 41, 42, 43, 44, 45, 46, 47, 48, 49] (by decide +kernel) (by decide +kernel)
set_option maxRecDepth 20000 in
theorem gX4_drop_X4_beginMoves : GoodIn wsX4_drop (wsV RX4 125 RX4 yX4_beginMoves wsX4_beginMoves) := goodIn_app (goodIn_of _ (by decide +kernel)) ggX4_drop_X4_beginMoves
set_option maxRecDepth 20000 in
theorem ggX4_drop_X4_move : GoodIn wsX4_drop wsX4_move := goodIn_r _ [21, 1, 17, 12, 22, 23, 24, 25, 26, 27, 28, 29, 30, 31, 32, 33, 34, 35, 36, 37, 38, 39, 40, 41, 42, 43, 44, 45, 46, 47, 48, 49] (by decide +kernel) (by decide +kernel)
set_option maxRecDepth 20000 in
theorem gX4_drop_X4_move : GoodIn wsX4_drop (wsV RX4 128 RX4 yX4_move wsX4_move) := goodIn_app (goodIn_of _ (by decide +kernel)) ggX4_drop_X4_move
theorem dX4_drop_0 : decode cX4_drop 0 = .ok (.aload_n 0, 1) := by decide +kernel
theorem dX4_drop_1 : decode cX4_drop 1 = .ok (.iload_n 1, 1) := by decide +kernel
theorem dX4_drop_2 : decode cX4_drop 2 = .ok (.invokevirtual 85, 3) := by decide +kernel
theorem dX4_drop_5 : decode cX4_drop 5 = .ok (.ifCond .eq 21, 3) := by decide +kernel
theorem dX4_drop_8 : decode cX4_drop 8 = .ok (.aload_n 0, 1) := by decide +kernel
theorem dX4_drop_9 : decode cX4_drop 9 = .ok (.getfield 44, 3) := by decide +kernel
theorem dX4_drop_12 : decode cX4_drop 12 = .ok (.iload_n 1, 1) := by decide +kernel
theorem dX4_drop_13 : decode cX4_drop 13 = .ok (.iaload, 1) := by decide +kernel
theorem dX4_drop_14 : decode cX4_drop 14 = .ok (.iconst (-1), 1) := by decide +kernel
theorem dX4_drop_15 : decode cX4_drop 15 = .ok (.if_icmp .eq 11, 3) := by decide +kernel
theorem dX4_drop_18 : decode cX4_drop 18 = .ok (.aload_n 0, 1) := by decide +kernel
theorem dX4_drop_19 : decode cX4_drop 19 = .ok (.iload_n 1, 1) := by decide +kernel
theorem dX4_drop_20 : decode cX4_drop 20 = .ok (.invokevirtual 116, 3) := by decide +kernel
theorem dX4_drop_23 : decode cX4_drop 23 = .ok (.ifCond .eq 5, 3) := by decide +kernel
theorem dX4_drop_26 : decode cX4_drop 26 = .ok (.iconst 0, 1) := by decide +kernel
theorem dX4_drop_27 : decode cX4_drop 27 = .ok (.ireturn, 1) := by decide +kernel
theorem dX4_drop_28 : decode cX4_drop 28 = .ok (.aload_n 0, 1) := by decide +kernel
theorem dX4_drop_29 : decode cX4_drop 29 = .ok (.invokevirtual 125, 3) := by decide +kernel
theorem dX4_drop_32 : decode cX4_drop 32 = .ok (.aload_n 0, 1) := by decide +kernel
theorem dX4_drop_33 : decode cX4_drop 33 = .ok (.iload_n 1, 1) := by decide +kernel
theorem dX4_drop_34 : decode cX4_drop 34 = .ok (.iconst (-1), 1) := by decide +kernel
theorem dX4_drop_35 : decode cX4_drop 35 = .ok (.invokevirtual 128, 3) := by decide +kernel
theorem dX4_drop_38 : decode cX4_drop 38 = .ok (.iconst 1, 1) := by decide +kernel
theorem dX4_drop_39 : decode cX4_drop 39 = .ok (.ireturn, 1) := by decide +kernel
set_option maxRecDepth 20000 in
theorem ggX4_may_X4_isWork : GoodIn wsX4_may wsX4_isWork := goodIn_r _ [5, 6, 42, 43, 44, 45, 46, 47, 48, 49, 50, 51, 52, 53, 54, 55, 56, 57, 58, 59, 60, 61, 62, 63, 64, 65, 66] (by decide +kernel) (by decide +kernel)
set_option maxRecDepth 20000 in
theorem gX4_may_X4_isWork : GoodIn wsX4_may (wsV RX4 85 RX4 yX4_isWork wsX4_isWork) := goodIn_app (goodIn_of _ (by decide +kernel)) ggX4_may_X4_isWork
set_option maxRecDepth 20000 in
theorem ggX4_may_X4_isHour : GoodIn wsX4_may wsX4_isHour := goodIn_r _ [10, 11, 42, 43, 44, 45, 46, 47, 48, 49, 50, 51, 52, 53, 54, 55, 56, 57, 58, 59, 60, 61, 62, 63, 64, 65, 66] (by decide +kernel) (by decide +kernel)
set_option maxRecDepth 20000 in
theorem gX4_may_X4_isHour : GoodIn wsX4_may (wsV RX4 89 RX4 yX4_isHour wsX4_isHour) := goodIn_app (goodIn_of _ (by decide +kernel)) ggX4_may_X4_isHour
set_option maxRecDepth 20000 in
theorem ggX4_may_X4_breaks : GoodIn wsX4_may wsX4_breaks := goodIn_r _ [15, 6, 16, 17, 18, 19, 4, 20, 11, 21, 22, 23, 24, 25, 26, 27, 28, 29, 30, 31, 32, 33, 34, 35, 36, 37, 38, 39, 40, 41, 42, 43, 44, 45, 46, 47, 48, 49, 50, 51, 52, 53, 54, 55, 56, 57, 58, 59, 60, 61, 62, 63, 64, 65, 66] (by decide +kernel) (by decide +kernel)
set_option maxRecDepth 20000 in
theorem gX4_may_X4_breaks : GoodIn wsX4_may (wsV RX4 119 RX4 yX4_breaks wsX4_breaks) := goodIn_app (goodIn_of _ (by decide +kernel)) ggX4_may_X4_breaks
theorem dX4_may_0 : decode cX4_may 0 = .ok (.aload_n 0, 1) := by decide +kernel
theorem dX4_may_1 : decode cX4_may 1 = .ok (.iload_n 1, 1) := by decide +kernel
theorem dX4_may_2 : decode cX4_may 2 = .ok (.invokevirtual 85, 3) := by decide +kernel
theorem dX4_may_5 : decode cX4_may 5 = .ok (.ifCond .eq 24, 3) := by decide +kernel
theorem dX4_may_8 : decode cX4_may 8 = .ok (.aload_n 0, 1) := by decide +kernel
theorem dX4_may_9 : decode cX4_may 9 = .ok (.iload_n 2, 1) := by decide +kernel
theorem dX4_may_10 : decode cX4_may 10 = .ok (.invokevirtual 89, 3) := by decide +kernel
theorem dX4_may_13 : decode cX4_may 13 = .ok (.ifCond .eq 16, 3) := by decide +kernel
theorem dX4_may_16 : decode cX4_may 16 = .ok (.aload_n 0, 1) := by decide +kernel
theorem dX4_may_17 : decode cX4_may 17 = .ok (.iload_n 1, 1) := by decide +kernel
theorem dX4_may_18 : decode cX4_may 18 = .ok (.iload_n 2, 1) := by decide +kernel
theorem dX4_may_19 : decode cX4_may 19 = .ok (.invokevirtual 119, 3) := by decide +kernel
theorem dX4_may_22 : decode cX4_may 22 = .ok (.ifCond .ne 7, 3) := by decide +kernel
theorem dX4_may_25 : decode cX4_may 25 = .ok (.iconst 1, 1) := by decide +kernel
theorem dX4_may_26 : decode cX4_may 26 = .ok (.goto 4, 3) := by decide +kernel
theorem dX4_may_29 : decode cX4_may 29 = .ok (.iconst 0, 1) := by decide +kernel
theorem dX4_may_30 : decode cX4_may 30 = .ok (.ireturn, 1) := by decide +kernel
set_option maxRecDepth 20000 in
theorem ggX4_look_X4_breaksAlone : GoodIn wsX4_look wsX4_breaksAlone := goodIn_r _ [10, 2, 11, 12, 13, 14, 15, 16, 17, 18, 9, 19, 20, 31, 32, 33, 34, 35, 36, 37, 38, 39, 40, 41, 42, 43, 44, 45, 46, 47, 48, 49, 50, 51, 52, 53, 54, 55] (by decide +kernel) (by decide +kernel)
set_option maxRecDepth 20000 in
theorem gX4_look_X4_breaksAlone : GoodIn wsX4_look (wsV RX4 102 RX4 yX4_breaksAlone wsX4_breaksAlone) := goodIn_app (goodIn_of _ (by decide +kernel)) ggX4_look_X4_breaksAlone
set_option maxRecDepth 20000 in
theorem ggX4_look_X4_isFixed : GoodIn wsX4_look wsX4_isFixed := goodIn_r _ [24, 25, 31, 32, 33, 34, 35, 36, 37, 38, 39, 40, 41, 42, 43, 44, 45, 46, 47, 48, 49, 50, 51, 52, 53, 54, 55] (by decide +kernel) (by decide +kernel)
set_option maxRecDepth 20000 in
theorem gX4_look_X4_isFixed : GoodIn wsX4_look (wsV RX4 116 RX4 yX4_isFixed wsX4_isFixed) := goodIn_app (goodIn_of _ (by decide +kernel)) ggX4_look_X4_isFixed
set_option maxRecDepth 20000 in
theorem ggX4_look_X4_delayOf : GoodIn wsX4_look wsX4_delayOf := goodIn_r _ [29, 30, 16, 17, 18, 9, 19, 13, 20, 31, 32, 33, 34, 35, 36, 37, 38, 39, 40, 41, 42, 43, 44, 45, 46, 47, 48, 49, 50, 51, 52, 53, 54, 55] (by decide +kernel) (by decide +kernel)
set_option maxRecDepth 20000 in
theorem gX4_look_X4_delayOf : GoodIn wsX4_look (wsV RX4 122 RX4 yX4_delayOf wsX4_delayOf) := goodIn_app (goodIn_of _ (by decide +kernel)) ggX4_look_X4_delayOf
theorem dX4_look_0 : decode cX4_look 0 = .ok (.iconst 0, 1) := by decide +kernel
theorem dX4_look_1 : decode cX4_look 1 = .ok (.istore_n 1, 1) := by decide +kernel
theorem dX4_look_2 : decode cX4_look 2 = .ok (.iload_n 1, 1) := by decide +kernel
theorem dX4_look_3 : decode cX4_look 3 = .ok (.aload_n 0, 1) := by decide +kernel
theorem dX4_look_4 : decode cX4_look 4 = .ok (.getfield 78, 3) := by decide +kernel
theorem dX4_look_7 : decode cX4_look 7 = .ok (.if_icmp .ge 103, 3) := by decide +kernel
theorem dX4_look_10 : decode cX4_look 10 = .ok (.iconst 0, 1) := by decide +kernel
theorem dX4_look_11 : decode cX4_look 11 = .ok (.istore_n 2, 1) := by decide +kernel
theorem dX4_look_12 : decode cX4_look 12 = .ok (.iload_n 2, 1) := by decide +kernel
theorem dX4_look_13 : decode cX4_look 13 = .ok (.aload_n 0, 1) := by decide +kernel
theorem dX4_look_14 : decode cX4_look 14 = .ok (.getfield 74, 3) := by decide +kernel
theorem dX4_look_17 : decode cX4_look 17 = .ok (.if_icmp .ge 87, 3) := by decide +kernel
theorem dX4_look_20 : decode cX4_look 20 = .ok (.aload_n 0, 1) := by decide +kernel
theorem dX4_look_21 : decode cX4_look 21 = .ok (.getfield 59, 3) := by decide +kernel
theorem dX4_look_24 : decode cX4_look 24 = .ok (.bipush 36, 2) := by decide +kernel
theorem dX4_look_26 : decode cX4_look 26 = .ok (.iload_n 1, 1) := by decide +kernel
theorem dX4_look_27 : decode cX4_look 27 = .ok (.imul, 1) := by decide +kernel
theorem dX4_look_28 : decode cX4_look 28 = .ok (.iload_n 2, 1) := by decide +kernel
theorem dX4_look_29 : decode cX4_look 29 = .ok (.iadd, 1) := by decide +kernel
theorem dX4_look_30 : decode cX4_look 30 = .ok (.aload_n 0, 1) := by decide +kernel
theorem dX4_look_31 : decode cX4_look 31 = .ok (.iload_n 1, 1) := by decide +kernel
theorem dX4_look_32 : decode cX4_look 32 = .ok (.iload_n 2, 1) := by decide +kernel
theorem dX4_look_33 : decode cX4_look 33 = .ok (.invokevirtual 102, 3) := by decide +kernel
theorem dX4_look_36 : decode cX4_look 36 = .ok (.ifCond .ne 25, 3) := by decide +kernel
theorem dX4_look_39 : decode cX4_look 39 = .ok (.aload_n 0, 1) := by decide +kernel
theorem dX4_look_40 : decode cX4_look 40 = .ok (.iload_n 1, 1) := by decide +kernel
theorem dX4_look_41 : decode cX4_look 41 = .ok (.invokevirtual 116, 3) := by decide +kernel
theorem dX4_look_44 : decode cX4_look 44 = .ok (.ifCond .eq 13, 3) := by decide +kernel
theorem dX4_look_47 : decode cX4_look 47 = .ok (.iload_n 2, 1) := by decide +kernel
theorem dX4_look_48 : decode cX4_look 48 = .ok (.aload_n 0, 1) := by decide +kernel
theorem dX4_look_49 : decode cX4_look 49 = .ok (.getfield 44, 3) := by decide +kernel
theorem dX4_look_52 : decode cX4_look 52 = .ok (.iload_n 1, 1) := by decide +kernel
theorem dX4_look_53 : decode cX4_look 53 = .ok (.iaload, 1) := by decide +kernel
theorem dX4_look_54 : decode cX4_look 54 = .ok (.if_icmp .ne 7, 3) := by decide +kernel
theorem dX4_look_57 : decode cX4_look 57 = .ok (.iconst 1, 1) := by decide +kernel
theorem dX4_look_58 : decode cX4_look 58 = .ok (.goto 4, 3) := by decide +kernel
theorem dX4_look_61 : decode cX4_look 61 = .ok (.iconst 0, 1) := by decide +kernel
theorem dX4_look_62 : decode cX4_look 62 = .ok (.bastore, 1) := by decide +kernel
theorem dX4_look_63 : decode cX4_look 63 = .ok (.aload_n 0, 1) := by decide +kernel
theorem dX4_look_64 : decode cX4_look 64 = .ok (.getfield 62, 3) := by decide +kernel
theorem dX4_look_67 : decode cX4_look 67 = .ok (.bipush 36, 2) := by decide +kernel
theorem dX4_look_69 : decode cX4_look 69 = .ok (.iload_n 1, 1) := by decide +kernel
theorem dX4_look_70 : decode cX4_look 70 = .ok (.imul, 1) := by decide +kernel
theorem dX4_look_71 : decode cX4_look 71 = .ok (.iload_n 2, 1) := by decide +kernel
theorem dX4_look_72 : decode cX4_look 72 = .ok (.iadd, 1) := by decide +kernel
theorem dX4_look_73 : decode cX4_look 73 = .ok (.aload_n 0, 1) := by decide +kernel
theorem dX4_look_74 : decode cX4_look 74 = .ok (.getfield 59, 3) := by decide +kernel
theorem dX4_look_77 : decode cX4_look 77 = .ok (.bipush 36, 2) := by decide +kernel
theorem dX4_look_79 : decode cX4_look 79 = .ok (.iload_n 1, 1) := by decide +kernel
theorem dX4_look_80 : decode cX4_look 80 = .ok (.imul, 1) := by decide +kernel
theorem dX4_look_81 : decode cX4_look 81 = .ok (.iload_n 2, 1) := by decide +kernel
theorem dX4_look_82 : decode cX4_look 82 = .ok (.iadd, 1) := by decide +kernel
theorem dX4_look_83 : decode cX4_look 83 = .ok (.baload, 1) := by decide +kernel
theorem dX4_look_84 : decode cX4_look 84 = .ok (.ifCond .eq 12, 3) := by decide +kernel
theorem dX4_look_87 : decode cX4_look 87 = .ok (.aload_n 0, 1) := by decide +kernel
theorem dX4_look_88 : decode cX4_look 88 = .ok (.iload_n 1, 1) := by decide +kernel
theorem dX4_look_89 : decode cX4_look 89 = .ok (.iload_n 2, 1) := by decide +kernel
theorem dX4_look_90 : decode cX4_look 90 = .ok (.invokevirtual 122, 3) := by decide +kernel
theorem dX4_look_93 : decode cX4_look 93 = .ok (.goto 4, 3) := by decide +kernel
theorem dX4_look_96 : decode cX4_look 96 = .ok (.iconst 0, 1) := by decide +kernel
theorem dX4_look_97 : decode cX4_look 97 = .ok (.iastore, 1) := by decide +kernel
theorem dX4_look_98 : decode cX4_look 98 = .ok (.iinc 2 1, 3) := by decide +kernel
theorem dX4_look_101 : decode cX4_look 101 = .ok (.goto (-89), 3) := by decide +kernel
theorem dX4_look_104 : decode cX4_look 104 = .ok (.iinc 1 1, 3) := by decide +kernel
theorem dX4_look_107 : decode cX4_look 107 = .ok (.goto (-105), 3) := by decide +kernel
theorem dX4_look_110 : decode cX4_look 110 = .ok (.return_, 1) := by decide +kernel
set_option maxRecDepth 20000 in
theorem ggX4_fitsBefore_X4_goesNear : GoodIn wsX4_fitsBefore wsX4_goesNear := goodIn_r _ [7, 8, 9, 10, 11, 6, 12, 13, 14, 21, 22, 23, 24, 25, 26, 27, 28, 29, 30, 31, 32, 33, 34, 35, 36, 37, 38, 39, 40, 41, 42, 43, 44, 45] (by decide +kernel) (by decide +kernel)
set_option maxRecDepth 20000 in
theorem gX4_fitsBefore_X4_goesNear : GoodIn wsX4_fitsBefore (wsV RX4 106 RX4 yX4_goesNear wsX4_goesNear) := goodIn_app (goodIn_of _ (by decide +kernel)) ggX4_fitsBefore_X4_goesNear
set_option maxRecDepth 20000 in
theorem ggX4_fitsBefore_X4_goesCrew : GoodIn wsX4_fitsBefore wsX4_goesCrew := goodIn_r _ [18, 19, 20, 9, 10, 11, 6, 12, 13, 14, 21, 22, 23, 24, 25, 26, 27, 28, 29, 30, 31, 32, 33, 34, 35, 36, 37, 38, 39, 40, 41, 42, 43, 44, 45] (by decide +kernel) (by decide +kernel)
set_option maxRecDepth 20000 in
theorem gX4_fitsBefore_X4_goesCrew : GoodIn wsX4_fitsBefore (wsV RX4 110 RX4 yX4_goesCrew wsX4_goesCrew) := goodIn_app (goodIn_of _ (by decide +kernel)) ggX4_fitsBefore_X4_goesCrew
theorem dX4_fitsBefore_0 : decode cX4_fitsBefore 0 = .ok (.aload_n 0, 1) := by decide +kernel
theorem dX4_fitsBefore_1 : decode cX4_fitsBefore 1 = .ok (.getfield 59, 3) := by decide +kernel
theorem dX4_fitsBefore_4 : decode cX4_fitsBefore 4 = .ok (.bipush 36, 2) := by decide +kernel
theorem dX4_fitsBefore_6 : decode cX4_fitsBefore 6 = .ok (.iload_n 1, 1) := by decide +kernel
theorem dX4_fitsBefore_7 : decode cX4_fitsBefore 7 = .ok (.imul, 1) := by decide +kernel
theorem dX4_fitsBefore_8 : decode cX4_fitsBefore 8 = .ok (.aload_n 0, 1) := by decide +kernel
theorem dX4_fitsBefore_9 : decode cX4_fitsBefore 9 = .ok (.getfield 47, 3) := by decide +kernel
theorem dX4_fitsBefore_12 : decode cX4_fitsBefore 12 = .ok (.iload_n 1, 1) := by decide +kernel
theorem dX4_fitsBefore_13 : decode cX4_fitsBefore 13 = .ok (.iaload, 1) := by decide +kernel
theorem dX4_fitsBefore_14 : decode cX4_fitsBefore 14 = .ok (.iadd, 1) := by decide +kernel
theorem dX4_fitsBefore_15 : decode cX4_fitsBefore 15 = .ok (.baload, 1) := by decide +kernel
theorem dX4_fitsBefore_16 : decode cX4_fitsBefore 16 = .ok (.istore_n 2, 1) := by decide +kernel
theorem dX4_fitsBefore_17 : decode cX4_fitsBefore 17 = .ok (.iconst 0, 1) := by decide +kernel
theorem dX4_fitsBefore_18 : decode cX4_fitsBefore 18 = .ok (.istore_n 3, 1) := by decide +kernel
theorem dX4_fitsBefore_19 : decode cX4_fitsBefore 19 = .ok (.iload_n 3, 1) := by decide +kernel
theorem dX4_fitsBefore_20 : decode cX4_fitsBefore 20 = .ok (.iload_n 1, 1) := by decide +kernel
theorem dX4_fitsBefore_21 : decode cX4_fitsBefore 21 = .ok (.if_icmp .ge 61, 3) := by decide +kernel
theorem dX4_fitsBefore_24 : decode cX4_fitsBefore 24 = .ok (.iload_n 2, 1) := by decide +kernel
theorem dX4_fitsBefore_25 : decode cX4_fitsBefore 25 = .ok (.ifCond .eq 57, 3) := by decide +kernel
theorem dX4_fitsBefore_28 : decode cX4_fitsBefore 28 = .ok (.aload_n 0, 1) := by decide +kernel
theorem dX4_fitsBefore_29 : decode cX4_fitsBefore 29 = .ok (.iload_n 1, 1) := by decide +kernel
theorem dX4_fitsBefore_30 : decode cX4_fitsBefore 30 = .ok (.aload_n 0, 1) := by decide +kernel
theorem dX4_fitsBefore_31 : decode cX4_fitsBefore 31 = .ok (.getfield 47, 3) := by decide +kernel
theorem dX4_fitsBefore_34 : decode cX4_fitsBefore 34 = .ok (.iload_n 1, 1) := by decide +kernel
theorem dX4_fitsBefore_35 : decode cX4_fitsBefore 35 = .ok (.iaload, 1) := by decide +kernel
theorem dX4_fitsBefore_36 : decode cX4_fitsBefore 36 = .ok (.iload_n 3, 1) := by decide +kernel
theorem dX4_fitsBefore_37 : decode cX4_fitsBefore 37 = .ok (.aload_n 0, 1) := by decide +kernel
theorem dX4_fitsBefore_38 : decode cX4_fitsBefore 38 = .ok (.getfield 47, 3) := by decide +kernel
theorem dX4_fitsBefore_41 : decode cX4_fitsBefore 41 = .ok (.iload_n 3, 1) := by decide +kernel
theorem dX4_fitsBefore_42 : decode cX4_fitsBefore 42 = .ok (.iaload, 1) := by decide +kernel
theorem dX4_fitsBefore_43 : decode cX4_fitsBefore 43 = .ok (.invokevirtual 106, 3) := by decide +kernel
theorem dX4_fitsBefore_46 : decode cX4_fitsBefore 46 = .ok (.ifCond .eq 28, 3) := by decide +kernel
theorem dX4_fitsBefore_49 : decode cX4_fitsBefore 49 = .ok (.aload_n 0, 1) := by decide +kernel
theorem dX4_fitsBefore_50 : decode cX4_fitsBefore 50 = .ok (.iload_n 1, 1) := by decide +kernel
theorem dX4_fitsBefore_51 : decode cX4_fitsBefore 51 = .ok (.aload_n 0, 1) := by decide +kernel
theorem dX4_fitsBefore_52 : decode cX4_fitsBefore 52 = .ok (.getfield 47, 3) := by decide +kernel
theorem dX4_fitsBefore_55 : decode cX4_fitsBefore 55 = .ok (.iload_n 1, 1) := by decide +kernel
theorem dX4_fitsBefore_56 : decode cX4_fitsBefore 56 = .ok (.iaload, 1) := by decide +kernel
theorem dX4_fitsBefore_57 : decode cX4_fitsBefore 57 = .ok (.iload_n 3, 1) := by decide +kernel
theorem dX4_fitsBefore_58 : decode cX4_fitsBefore 58 = .ok (.aload_n 0, 1) := by decide +kernel
