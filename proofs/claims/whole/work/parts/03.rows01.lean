theorem dX0_init_0 : decode cX0_init 0 = .ok (.aload_n 0, 1) := by decide +kernel
theorem dX0_init_1 : decode cX0_init 1 = .ok (.invokespecial 1, 3) := by decide +kernel
theorem dX0_init_4 : decode cX0_init 4 = .ok (.aload_n 0, 1) := by decide +kernel
theorem dX0_init_5 : decode cX0_init 5 = .ok (.sipush 200, 3) := by decide +kernel
theorem dX0_init_8 : decode cX0_init 8 = .ok (.newarray .int, 2) := by decide +kernel
theorem dX0_init_10 : decode cX0_init 10 = .ok (.putfield 9, 3) := by decide +kernel
theorem dX0_init_13 : decode cX0_init 13 = .ok (.aload_n 0, 1) := by decide +kernel
theorem dX0_init_14 : decode cX0_init 14 = .ok (.sipush 200, 3) := by decide +kernel
theorem dX0_init_17 : decode cX0_init 17 = .ok (.newarray .int, 2) := by decide +kernel
theorem dX0_init_19 : decode cX0_init 19 = .ok (.putfield 13, 3) := by decide +kernel
theorem dX0_init_22 : decode cX0_init 22 = .ok (.return_, 1) := by decide +kernel
theorem dX0_isKept_0 : decode cX0_isKept 0 = .ok (.iload_n 1, 1) := by decide +kernel
theorem dX0_isKept_1 : decode cX0_isKept 1 = .ok (.ifCond .lt 22, 3) := by decide +kernel
theorem dX0_isKept_4 : decode cX0_isKept 4 = .ok (.iload_n 1, 1) := by decide +kernel
theorem dX0_isKept_5 : decode cX0_isKept 5 = .ok (.aload_n 0, 1) := by decide +kernel
theorem dX0_isKept_6 : decode cX0_isKept 6 = .ok (.getfield 16, 3) := by decide +kernel
theorem dX0_isKept_9 : decode cX0_isKept 9 = .ok (.if_icmp .ge 14, 3) := by decide +kernel
theorem dX0_isKept_12 : decode cX0_isKept 12 = .ok (.iload_n 1, 1) := by decide +kernel
theorem dX0_isKept_13 : decode cX0_isKept 13 = .ok (.sipush 200, 3) := by decide +kernel
theorem dX0_isKept_16 : decode cX0_isKept 16 = .ok (.if_icmp .ge 7, 3) := by decide +kernel
theorem dX0_isKept_19 : decode cX0_isKept 19 = .ok (.iconst 1, 1) := by decide +kernel
theorem dX0_isKept_20 : decode cX0_isKept 20 = .ok (.goto 4, 3) := by decide +kernel
theorem dX0_isKept_23 : decode cX0_isKept 23 = .ok (.iconst 0, 1) := by decide +kernel
theorem dX0_isKept_24 : decode cX0_isKept 24 = .ok (.ireturn, 1) := by decide +kernel
theorem dX0_write_0 : decode cX0_write 0 = .ok (.aload_n 0, 1) := by decide +kernel
theorem dX0_write_1 : decode cX0_write 1 = .ok (.getfield 16, 3) := by decide +kernel
theorem dX0_write_4 : decode cX0_write 4 = .ok (.sipush 200, 3) := by decide +kernel
theorem dX0_write_7 : decode cX0_write 7 = .ok (.if_icmp .ge 23, 3) := by decide +kernel
theorem dX0_write_10 : decode cX0_write 10 = .ok (.aload_n 0, 1) := by decide +kernel
theorem dX0_write_11 : decode cX0_write 11 = .ok (.getfield 9, 3) := by decide +kernel
theorem dX0_write_14 : decode cX0_write 14 = .ok (.aload_n 0, 1) := by decide +kernel
theorem dX0_write_15 : decode cX0_write 15 = .ok (.getfield 16, 3) := by decide +kernel
theorem dX0_write_18 : decode cX0_write 18 = .ok (.iload_n 1, 1) := by decide +kernel
theorem dX0_write_19 : decode cX0_write 19 = .ok (.iastore, 1) := by decide +kernel
theorem dX0_write_20 : decode cX0_write 20 = .ok (.aload_n 0, 1) := by decide +kernel
theorem dX0_write_21 : decode cX0_write 21 = .ok (.getfield 13, 3) := by decide +kernel
theorem dX0_write_24 : decode cX0_write 24 = .ok (.aload_n 0, 1) := by decide +kernel
theorem dX0_write_25 : decode cX0_write 25 = .ok (.getfield 16, 3) := by decide +kernel
theorem dX0_write_28 : decode cX0_write 28 = .ok (.iload_n 2, 1) := by decide +kernel
theorem dX0_write_29 : decode cX0_write 29 = .ok (.iastore, 1) := by decide +kernel
theorem dX0_write_30 : decode cX0_write 30 = .ok (.aload_n 0, 1) := by decide +kernel
theorem dX0_write_31 : decode cX0_write 31 = .ok (.aload_n 0, 1) := by decide +kernel
theorem dX0_write_32 : decode cX0_write 32 = .ok (.getfield 16, 3) := by decide +kernel
theorem dX0_write_35 : decode cX0_write 35 = .ok (.iconst 1, 1) := by decide +kernel
theorem dX0_write_36 : decode cX0_write 36 = .ok (.iadd, 1) := by decide +kernel
theorem dX0_write_37 : decode cX0_write 37 = .ok (.ldc 20, 2) := by decide +kernel
theorem dX0_write_39 : decode cX0_write 39 = .ok (.invokestatic 21, 3) := by decide +kernel
theorem dX0_write_42 : decode cX0_write 42 = .ok (.putfield 16, 3) := by decide +kernel
theorem dX0_write_45 : decode cX0_write 45 = .ok (.return_, 1) := by decide +kernel
theorem dX1_init_0 : decode cX1_init 0 = .ok (.aload_n 0, 1) := by decide +kernel
theorem dX1_init_1 : decode cX1_init 1 = .ok (.invokespecial 3, 3) := by decide +kernel
theorem dX1_init_4 : decode cX1_init 4 = .ok (.aload_n 0, 1) := by decide +kernel
theorem dX1_init_5 : decode cX1_init 5 = .ok (.iconst 4, 1) := by decide +kernel
theorem dX1_init_6 : decode cX1_init 6 = .ok (.newarray .int, 2) := by decide +kernel
theorem dX1_init_8 : decode cX1_init 8 = .ok (.putfield 9, 3) := by decide +kernel
theorem dX1_init_11 : decode cX1_init 11 = .ok (.aload_n 0, 1) := by decide +kernel
theorem dX1_init_12 : decode cX1_init 12 = .ok (.iconst 4, 1) := by decide +kernel
theorem dX1_init_13 : decode cX1_init 13 = .ok (.iconst 4, 1) := by decide +kernel
theorem dX1_init_14 : decode cX1_init 14 = .ok (.multianewarray 15 2, 4) := by decide +kernel
theorem dX1_init_18 : decode cX1_init 18 = .ok (.putfield 17, 3) := by decide +kernel
theorem dX1_init_21 : decode cX1_init 21 = .ok (.aload_n 0, 1) := by decide +kernel
theorem dX1_init_22 : decode cX1_init 22 = .ok (.iconst 4, 1) := by decide +kernel
theorem dX1_init_23 : decode cX1_init 23 = .ok (.bipush 36, 2) := by decide +kernel
theorem dX1_init_25 : decode cX1_init 25 = .ok (.multianewarray 20 2, 4) := by decide +kernel
theorem dX1_init_29 : decode cX1_init 29 = .ok (.putfield 22, 3) := by decide +kernel
theorem dX1_init_32 : decode cX1_init 32 = .ok (.aload_n 0, 1) := by decide +kernel
theorem dX1_init_33 : decode cX1_init 33 = .ok (.iconst 4, 1) := by decide +kernel
theorem dX1_init_34 : decode cX1_init 34 = .ok (.bipush 36, 2) := by decide +kernel
theorem dX1_init_36 : decode cX1_init 36 = .ok (.multianewarray 15 2, 4) := by decide +kernel
theorem dX1_init_40 : decode cX1_init 40 = .ok (.putfield 25, 3) := by decide +kernel
theorem dX1_init_43 : decode cX1_init 43 = .ok (.aload_n 0, 1) := by decide +kernel
theorem dX1_init_44 : decode cX1_init 44 = .ok (.iconst 4, 1) := by decide +kernel
theorem dX1_init_45 : decode cX1_init 45 = .ok (.newarray .int, 2) := by decide +kernel
theorem dX1_init_47 : decode cX1_init 47 = .ok (.putfield 28, 3) := by decide +kernel
theorem dX1_init_50 : decode cX1_init 50 = .ok (.aload_n 0, 1) := by decide +kernel
theorem dX1_init_51 : decode cX1_init 51 = .ok (.iconst 4, 1) := by decide +kernel
theorem dX1_init_52 : decode cX1_init 52 = .ok (.iconst 4, 1) := by decide +kernel
theorem dX1_init_53 : decode cX1_init 53 = .ok (.multianewarray 20 2, 4) := by decide +kernel
theorem dX1_init_57 : decode cX1_init 57 = .ok (.putfield 31, 3) := by decide +kernel
theorem dX1_init_60 : decode cX1_init 60 = .ok (.aload_n 0, 1) := by decide +kernel
theorem dX1_init_61 : decode cX1_init 61 = .ok (.iconst 4, 1) := by decide +kernel
theorem dX1_init_62 : decode cX1_init 62 = .ok (.newarray .int, 2) := by decide +kernel
theorem dX1_init_64 : decode cX1_init 64 = .ok (.putfield 34, 3) := by decide +kernel
theorem dX1_init_67 : decode cX1_init 67 = .ok (.aload_n 0, 1) := by decide +kernel
theorem dX1_init_68 : decode cX1_init 68 = .ok (.iconst 4, 1) := by decide +kernel
theorem dX1_init_69 : decode cX1_init 69 = .ok (.newarray .int, 2) := by decide +kernel
theorem dX1_init_71 : decode cX1_init 71 = .ok (.putfield 37, 3) := by decide +kernel
theorem dX1_init_74 : decode cX1_init 74 = .ok (.return_, 1) := by decide +kernel
theorem dX1_begin_0 : decode cX1_begin 0 = .ok (.aload_n 0, 1) := by decide +kernel
theorem dX1_begin_1 : decode cX1_begin 1 = .ok (.iload_n 1, 1) := by decide +kernel
theorem dX1_begin_2 : decode cX1_begin 2 = .ok (.putfield 40, 3) := by decide +kernel
theorem dX1_begin_5 : decode cX1_begin 5 = .ok (.aload_n 0, 1) := by decide +kernel
theorem dX1_begin_6 : decode cX1_begin 6 = .ok (.ldc2_w 44, 3) := by decide +kernel
theorem dX1_begin_9 : decode cX1_begin 9 = .ok (.putfield 46, 3) := by decide +kernel
theorem dX1_begin_12 : decode cX1_begin 12 = .ok (.iconst 0, 1) := by decide +kernel
theorem dX1_begin_13 : decode cX1_begin 13 = .ok (.istore_n 2, 1) := by decide +kernel
theorem dX1_begin_14 : decode cX1_begin 14 = .ok (.iload_n 2, 1) := by decide +kernel
theorem dX1_begin_15 : decode cX1_begin 15 = .ok (.iload_n 1, 1) := by decide +kernel
theorem dX1_begin_16 : decode cX1_begin 16 = .ok (.if_icmp .ge 25, 3) := by decide +kernel
theorem dX1_begin_19 : decode cX1_begin 19 = .ok (.aload_n 0, 1) := by decide +kernel
theorem dX1_begin_20 : decode cX1_begin 20 = .ok (.getfield 28, 3) := by decide +kernel
theorem dX1_begin_23 : decode cX1_begin 23 = .ok (.iload_n 2, 1) := by decide +kernel
theorem dX1_begin_24 : decode cX1_begin 24 = .ok (.iconst 0, 1) := by decide +kernel
theorem dX1_begin_25 : decode cX1_begin 25 = .ok (.iastore, 1) := by decide +kernel
theorem dX1_begin_26 : decode cX1_begin 26 = .ok (.aload_n 0, 1) := by decide +kernel
theorem dX1_begin_27 : decode cX1_begin 27 = .ok (.getfield 31, 3) := by decide +kernel
theorem dX1_begin_30 : decode cX1_begin 30 = .ok (.iconst 0, 1) := by decide +kernel
theorem dX1_begin_31 : decode cX1_begin 31 = .ok (.aaload, 1) := by decide +kernel
theorem dX1_begin_32 : decode cX1_begin 32 = .ok (.iload_n 2, 1) := by decide +kernel
theorem dX1_begin_33 : decode cX1_begin 33 = .ok (.lconst 0, 1) := by decide +kernel
theorem dX1_begin_34 : decode cX1_begin 34 = .ok (.lastore, 1) := by decide +kernel
theorem dX1_begin_35 : decode cX1_begin 35 = .ok (.iinc 2 1, 3) := by decide +kernel
theorem dX1_begin_38 : decode cX1_begin 38 = .ok (.goto (-24), 3) := by decide +kernel
theorem dX1_begin_41 : decode cX1_begin 41 = .ok (.return_, 1) := by decide +kernel
theorem dX1_setSpan_0 : decode cX1_setSpan 0 = .ok (.aload_n 0, 1) := by decide +kernel
theorem dX1_setSpan_1 : decode cX1_setSpan 1 = .ok (.getfield 9, 3) := by decide +kernel
theorem dX1_setSpan_4 : decode cX1_setSpan 4 = .ok (.iload_n 1, 1) := by decide +kernel
theorem dX1_setSpan_5 : decode cX1_setSpan 5 = .ok (.iload_n 2, 1) := by decide +kernel
theorem dX1_setSpan_6 : decode cX1_setSpan 6 = .ok (.iastore, 1) := by decide +kernel
theorem dX1_setSpan_7 : decode cX1_setSpan 7 = .ok (.return_, 1) := by decide +kernel
theorem dX1_setGap_0 : decode cX1_setGap 0 = .ok (.aload_n 0, 1) := by decide +kernel
theorem dX1_setGap_1 : decode cX1_setGap 1 = .ok (.getfield 17, 3) := by decide +kernel
theorem dX1_setGap_4 : decode cX1_setGap 4 = .ok (.iload_n 1, 1) := by decide +kernel
theorem dX1_setGap_5 : decode cX1_setGap 5 = .ok (.aaload, 1) := by decide +kernel
theorem dX1_setGap_6 : decode cX1_setGap 6 = .ok (.iload_n 2, 1) := by decide +kernel
theorem dX1_setGap_7 : decode cX1_setGap 7 = .ok (.iload_n 3, 1) := by decide +kernel
theorem dX1_setGap_8 : decode cX1_setGap 8 = .ok (.iastore, 1) := by decide +kernel
theorem dX1_setGap_9 : decode cX1_setGap 9 = .ok (.return_, 1) := by decide +kernel
set_option maxRecDepth 20000 in
theorem ggX1_offer_X1_digit : GoodIn wsX1_offer wsX1_digit := goodIn_r _ [9, 10] (by decide +kernel) (by decide +kernel)
set_option maxRecDepth 20000 in
theorem gX1_offer_X1_digit : GoodIn wsX1_offer (va_wsS RX1 52 yX1_digit wsX1_digit) := goodIn_app (goodIn_of _ (by decide +kernel)) ggX1_offer_X1_digit
set_option maxRecDepth 20000 in
theorem ggX1_offer_X3_withBit : GoodIn wsX1_offer wsX3_withBit := goodIn_r _ [13, 14] (by decide +kernel) (by decide +kernel)
set_option maxRecDepth 20000 in
theorem gX1_offer_X3_withBit_n56 : GoodIn wsX1_offer (wsX3_withBit) := ggX1_offer_X3_withBit
theorem dX1_offer_0 : decode cX1_offer 0 = .ok (.iload_n 3, 1) := by decide +kernel
theorem dX1_offer_1 : decode cX1_offer 1 = .ok (.i2l, 1) := by decide +kernel
theorem dX1_offer_2 : decode cX1_offer 2 = .ok (.ldc2_w 50, 3) := by decide +kernel
theorem dX1_offer_5 : decode cX1_offer 5 = .ok (.lmul, 1) := by decide +kernel
theorem dX1_offer_6 : decode cX1_offer 6 = .ok (.iload_n 1, 1) := by decide +kernel
theorem dX1_offer_7 : decode cX1_offer 7 = .ok (.iload_n 2, 1) := by decide +kernel
theorem dX1_offer_8 : decode cX1_offer 8 = .ok (.invokestatic 52, 3) := by decide +kernel
theorem dX1_offer_11 : decode cX1_offer 11 = .ok (.ladd, 1) := by decide +kernel
theorem dX1_offer_12 : decode cX1_offer 12 = .ok (.lstore 4, 2) := by decide +kernel
theorem dX1_offer_14 : decode cX1_offer 14 = .ok (.aload_n 0, 1) := by decide +kernel
theorem dX1_offer_15 : decode cX1_offer 15 = .ok (.getfield 22, 3) := by decide +kernel
theorem dX1_offer_18 : decode cX1_offer 18 = .ok (.iload_n 1, 1) := by decide +kernel
theorem dX1_offer_19 : decode cX1_offer 19 = .ok (.aaload, 1) := by decide +kernel
theorem dX1_offer_20 : decode cX1_offer 20 = .ok (.iload_n 2, 1) := by decide +kernel
theorem dX1_offer_21 : decode cX1_offer 21 = .ok (.lload 4, 2) := by decide +kernel
theorem dX1_offer_23 : decode cX1_offer 23 = .ok (.lastore, 1) := by decide +kernel
theorem dX1_offer_24 : decode cX1_offer 24 = .ok (.aload_n 0, 1) := by decide +kernel
theorem dX1_offer_25 : decode cX1_offer 25 = .ok (.getfield 28, 3) := by decide +kernel
theorem dX1_offer_28 : decode cX1_offer 28 = .ok (.iload_n 1, 1) := by decide +kernel
theorem dX1_offer_29 : decode cX1_offer 29 = .ok (.iaload, 1) := by decide +kernel
theorem dX1_offer_30 : decode cX1_offer 30 = .ok (.istore 6, 2) := by decide +kernel
theorem dX1_offer_32 : decode cX1_offer 32 = .ok (.iload 6, 2) := by decide +kernel
theorem dX1_offer_34 : decode cX1_offer 34 = .ok (.ifCond .le 53, 3) := by decide +kernel
theorem dX1_offer_37 : decode cX1_offer 37 = .ok (.aload_n 0, 1) := by decide +kernel
theorem dX1_offer_38 : decode cX1_offer 38 = .ok (.getfield 22, 3) := by decide +kernel
theorem dX1_offer_41 : decode cX1_offer 41 = .ok (.iload_n 1, 1) := by decide +kernel
theorem dX1_offer_42 : decode cX1_offer 42 = .ok (.aaload, 1) := by decide +kernel
theorem dX1_offer_43 : decode cX1_offer 43 = .ok (.aload_n 0, 1) := by decide +kernel
theorem dX1_offer_44 : decode cX1_offer 44 = .ok (.getfield 25, 3) := by decide +kernel
theorem dX1_offer_47 : decode cX1_offer 47 = .ok (.iload_n 1, 1) := by decide +kernel
theorem dX1_offer_48 : decode cX1_offer 48 = .ok (.aaload, 1) := by decide +kernel
theorem dX1_offer_49 : decode cX1_offer 49 = .ok (.iload 6, 2) := by decide +kernel
theorem dX1_offer_51 : decode cX1_offer 51 = .ok (.iconst 1, 1) := by decide +kernel
theorem dX1_offer_52 : decode cX1_offer 52 = .ok (.isub, 1) := by decide +kernel
theorem dX1_offer_53 : decode cX1_offer 53 = .ok (.iaload, 1) := by decide +kernel
theorem dX1_offer_54 : decode cX1_offer 54 = .ok (.laload, 1) := by decide +kernel
theorem dX1_offer_55 : decode cX1_offer 55 = .ok (.lload 4, 2) := by decide +kernel
theorem dX1_offer_57 : decode cX1_offer 57 = .ok (.lcmp, 1) := by decide +kernel
theorem dX1_offer_58 : decode cX1_offer 58 = .ok (.ifCond .le 29, 3) := by decide +kernel
theorem dX1_offer_61 : decode cX1_offer 61 = .ok (.aload_n 0, 1) := by decide +kernel
theorem dX1_offer_62 : decode cX1_offer 62 = .ok (.getfield 25, 3) := by decide +kernel
theorem dX1_offer_65 : decode cX1_offer 65 = .ok (.iload_n 1, 1) := by decide +kernel
theorem dX1_offer_66 : decode cX1_offer 66 = .ok (.aaload, 1) := by decide +kernel
theorem dX1_offer_67 : decode cX1_offer 67 = .ok (.iload 6, 2) := by decide +kernel
theorem dX1_offer_69 : decode cX1_offer 69 = .ok (.aload_n 0, 1) := by decide +kernel
theorem dX1_offer_70 : decode cX1_offer 70 = .ok (.getfield 25, 3) := by decide +kernel
theorem dX1_offer_73 : decode cX1_offer 73 = .ok (.iload_n 1, 1) := by decide +kernel
theorem dX1_offer_74 : decode cX1_offer 74 = .ok (.aaload, 1) := by decide +kernel
theorem dX1_offer_75 : decode cX1_offer 75 = .ok (.iload 6, 2) := by decide +kernel
theorem dX1_offer_77 : decode cX1_offer 77 = .ok (.iconst 1, 1) := by decide +kernel
theorem dX1_offer_78 : decode cX1_offer 78 = .ok (.isub, 1) := by decide +kernel
theorem dX1_offer_79 : decode cX1_offer 79 = .ok (.iaload, 1) := by decide +kernel
theorem dX1_offer_80 : decode cX1_offer 80 = .ok (.iastore, 1) := by decide +kernel
theorem dX1_offer_81 : decode cX1_offer 81 = .ok (.iinc 6 (-1), 3) := by decide +kernel
theorem dX1_offer_84 : decode cX1_offer 84 = .ok (.goto (-52), 3) := by decide +kernel
theorem dX1_offer_87 : decode cX1_offer 87 = .ok (.aload_n 0, 1) := by decide +kernel
theorem dX1_offer_88 : decode cX1_offer 88 = .ok (.getfield 25, 3) := by decide +kernel
theorem dX1_offer_91 : decode cX1_offer 91 = .ok (.iload_n 1, 1) := by decide +kernel
theorem dX1_offer_92 : decode cX1_offer 92 = .ok (.aaload, 1) := by decide +kernel
theorem dX1_offer_93 : decode cX1_offer 93 = .ok (.iload 6, 2) := by decide +kernel
theorem dX1_offer_95 : decode cX1_offer 95 = .ok (.iload_n 2, 1) := by decide +kernel
theorem dX1_offer_96 : decode cX1_offer 96 = .ok (.iastore, 1) := by decide +kernel
theorem dX1_offer_97 : decode cX1_offer 97 = .ok (.aload_n 0, 1) := by decide +kernel
theorem dX1_offer_98 : decode cX1_offer 98 = .ok (.getfield 28, 3) := by decide +kernel
theorem dX1_offer_101 : decode cX1_offer 101 = .ok (.iload_n 1, 1) := by decide +kernel
theorem dX1_offer_102 : decode cX1_offer 102 = .ok (.dup2, 1) := by decide +kernel
theorem dX1_offer_103 : decode cX1_offer 103 = .ok (.iaload, 1) := by decide +kernel
theorem dX1_offer_104 : decode cX1_offer 104 = .ok (.iconst 1, 1) := by decide +kernel
theorem dX1_offer_105 : decode cX1_offer 105 = .ok (.iadd, 1) := by decide +kernel
theorem dX1_offer_106 : decode cX1_offer 106 = .ok (.iastore, 1) := by decide +kernel
theorem dX1_offer_107 : decode cX1_offer 107 = .ok (.aload_n 0, 1) := by decide +kernel
theorem dX1_offer_108 : decode cX1_offer 108 = .ok (.getfield 31, 3) := by decide +kernel
theorem dX1_offer_111 : decode cX1_offer 111 = .ok (.iconst 0, 1) := by decide +kernel
theorem dX1_offer_112 : decode cX1_offer 112 = .ok (.aaload, 1) := by decide +kernel
theorem dX1_offer_113 : decode cX1_offer 113 = .ok (.iload_n 1, 1) := by decide +kernel
theorem dX1_offer_114 : decode cX1_offer 114 = .ok (.aload_n 0, 1) := by decide +kernel
theorem dX1_offer_115 : decode cX1_offer 115 = .ok (.getfield 31, 3) := by decide +kernel
theorem dX1_offer_118 : decode cX1_offer 118 = .ok (.iconst 0, 1) := by decide +kernel
theorem dX1_offer_119 : decode cX1_offer 119 = .ok (.aaload, 1) := by decide +kernel
theorem dX1_offer_120 : decode cX1_offer 120 = .ok (.iload_n 1, 1) := by decide +kernel
theorem dX1_offer_121 : decode cX1_offer 121 = .ok (.laload, 1) := by decide +kernel
theorem dX1_offer_122 : decode cX1_offer 122 = .ok (.iload_n 2, 1) := by decide +kernel
theorem dX1_offer_123 : decode cX1_offer 123 = .ok (.iconst 1, 1) := by decide +kernel
theorem dX1_offer_124 : decode cX1_offer 124 = .ok (.invokestatic 56, 3) := by decide +kernel
theorem dX1_offer_127 : decode cX1_offer 127 = .ok (.lastore, 1) := by decide +kernel
theorem dX1_offer_128 : decode cX1_offer 128 = .ok (.return_, 1) := by decide +kernel
theorem dX1_digit_0 : decode cX1_digit 0 = .ok (.iload_n 1, 1) := by decide +kernel
theorem dX1_digit_1 : decode cX1_digit 1 = .ok (.i2l, 1) := by decide +kernel
theorem dX1_digit_2 : decode cX1_digit 2 = .ok (.lstore_n 2, 1) := by decide +kernel
theorem dX1_digit_3 : decode cX1_digit 3 = .ok (.iload_n 0, 1) := by decide +kernel
theorem dX1_digit_4 : decode cX1_digit 4 = .ok (.iconst 1, 1) := by decide +kernel
theorem dX1_digit_5 : decode cX1_digit 5 = .ok (.iadd, 1) := by decide +kernel
theorem dX1_digit_6 : decode cX1_digit 6 = .ok (.istore 4, 2) := by decide +kernel
theorem dX1_digit_8 : decode cX1_digit 8 = .ok (.iload 4, 2) := by decide +kernel
theorem dX1_digit_10 : decode cX1_digit 10 = .ok (.iconst 4, 1) := by decide +kernel
theorem dX1_digit_11 : decode cX1_digit 11 = .ok (.if_icmp .ge 15, 3) := by decide +kernel
theorem dX1_digit_14 : decode cX1_digit 14 = .ok (.lload_n 2, 1) := by decide +kernel
theorem dX1_digit_15 : decode cX1_digit 15 = .ok (.ldc2_w 60, 3) := by decide +kernel
theorem dX1_digit_18 : decode cX1_digit 18 = .ok (.lmul, 1) := by decide +kernel
theorem dX1_digit_19 : decode cX1_digit 19 = .ok (.lstore_n 2, 1) := by decide +kernel
theorem dX1_digit_20 : decode cX1_digit 20 = .ok (.iinc 4 1, 3) := by decide +kernel
theorem dX1_digit_23 : decode cX1_digit 23 = .ok (.goto (-15), 3) := by decide +kernel
theorem dX1_digit_26 : decode cX1_digit 26 = .ok (.lload_n 2, 1) := by decide +kernel
theorem dX1_digit_27 : decode cX1_digit 27 = .ok (.lreturn, 1) := by decide +kernel
set_option maxRecDepth 20000 in
theorem ggX1_solve_X1_place : GoodIn wsX1_solve wsX1_place := goodIn_r _ [7, 8, 1, 9, 10, 11, 12, 13, 14, 15, 16, 17, 18, 19, 20, 21, 22, 23, 24, 6, 25, 2, 26, 27, 28, 29, 30, 31, 32, 33, 34, 35, 36, 37, 38, 39, 40, 41, 42, 43, 44, 45, 3, 4, 5, 46, 47, 48, 49, 50, 51, 52, 53, 54, 55] (by decide +kernel) (by decide +kernel)
set_option maxRecDepth 20000 in
theorem gX1_solve_X1_place : GoodIn wsX1_solve (wsV RX1 62 RX1 yX1_place wsX1_place) := goodIn_app (goodIn_of _ (by decide +kernel)) ggX1_solve_X1_place
theorem dX1_solve_0 : decode cX1_solve 0 = .ok (.aload_n 0, 1) := by decide +kernel
theorem dX1_solve_1 : decode cX1_solve 1 = .ok (.iconst 0, 1) := by decide +kernel
theorem dX1_solve_2 : decode cX1_solve 2 = .ok (.lconst 0, 1) := by decide +kernel
theorem dX1_solve_3 : decode cX1_solve 3 = .ok (.invokevirtual 62, 3) := by decide +kernel
theorem dX1_solve_6 : decode cX1_solve 6 = .ok (.aload_n 0, 1) := by decide +kernel
theorem dX1_solve_7 : decode cX1_solve 7 = .ok (.getfield 46, 3) := by decide +kernel
theorem dX1_solve_10 : decode cX1_solve 10 = .ok (.ldc2_w 44, 3) := by decide +kernel
theorem dX1_solve_13 : decode cX1_solve 13 = .ok (.lcmp, 1) := by decide +kernel
theorem dX1_solve_14 : decode cX1_solve 14 = .ok (.ifCond .eq 7, 3) := by decide +kernel
theorem dX1_solve_17 : decode cX1_solve 17 = .ok (.iconst 1, 1) := by decide +kernel
theorem dX1_solve_18 : decode cX1_solve 18 = .ok (.goto 4, 3) := by decide +kernel
theorem dX1_solve_21 : decode cX1_solve 21 = .ok (.iconst 0, 1) := by decide +kernel
theorem dX1_solve_22 : decode cX1_solve 22 = .ok (.ireturn, 1) := by decide +kernel
theorem dX1_bestCost_0 : decode cX1_bestCost 0 = .ok (.aload_n 0, 1) := by decide +kernel
theorem dX1_bestCost_1 : decode cX1_bestCost 1 = .ok (.getfield 46, 3) := by decide +kernel
theorem dX1_bestCost_4 : decode cX1_bestCost 4 = .ok (.ldc2_w 50, 3) := by decide +kernel
theorem dX1_bestCost_7 : decode cX1_bestCost 7 = .ok (.ldiv, 1) := by decide +kernel
theorem dX1_bestCost_8 : decode cX1_bestCost 8 = .ok (.l2i, 1) := by decide +kernel
theorem dX1_bestCost_9 : decode cX1_bestCost 9 = .ok (.ireturn, 1) := by decide +kernel
set_option maxRecDepth 20000 in
theorem ggX1_place_X3_hasBit : GoodIn wsX1_place wsX3_hasBit := goodIn_r _ [15] (by decide +kernel) (by decide +kernel)
set_option maxRecDepth 20000 in
theorem gX1_place_X3_hasBit_n72 : GoodIn wsX1_place (wsX3_hasBit) := ggX1_place_X3_hasBit
set_option maxRecDepth 20000 in
theorem ggX1_place_X1_lightestLeft : GoodIn wsX1_place wsX1_lightestLeft := goodIn_r _ [20, 1, 11, 21, 22, 23, 24, 19, 25, 9, 10, 12, 13, 14, 15, 45, 46, 47, 48, 49, 50, 51, 52, 53, 54] (by decide +kernel) (by decide +kernel)
set_option maxRecDepth 20000 in
theorem gX1_place_X1_lightestLeft : GoodIn wsX1_place (wsV RX1 76 RX1 yX1_lightestLeft wsX1_lightestLeft) := goodIn_app (goodIn_of _ (by decide +kernel)) ggX1_place_X1_lightestLeft
set_option maxRecDepth 20000 in
theorem ggX1_place_X1_narrow : GoodIn wsX1_place wsX1_narrow := goodIn_r _ [29, 1, 30, 31, 32, 33, 34, 35, 36, 37, 38, 11, 39, 40, 14, 41, 45, 46, 47, 48, 49, 50, 51, 52, 53, 54] (by decide +kernel) (by decide +kernel)
set_option maxRecDepth 20000 in
theorem gX1_place_X1_narrow : GoodIn wsX1_place (wsV RX1 79 RX1 yX1_narrow wsX1_narrow) := goodIn_app (goodIn_of _ (by decide +kernel)) ggX1_place_X1_narrow
set_option maxRecDepth 20000 in
theorem ggX1_place_X1_place : GoodIn wsX1_place wsX1_place := goodIn_r _ [0, 1, 2, 3, 4, 5, 6, 7, 8, 9, 10, 11, 12, 13, 14, 15, 16, 17, 18, 19, 20, 21, 22, 23, 24, 25, 26, 27, 28, 29, 30, 31, 32, 33, 34, 35, 36, 37, 38, 39, 40, 41, 42, 43, 44, 45, 46, 47, 48, 49, 50, 51, 52, 53, 54] (by decide +kernel) (by decide +kernel)
set_option maxRecDepth 20000 in
theorem gX1_place_X1_place : GoodIn wsX1_place (wsV RX1 62 RX1 yX1_place wsX1_place) := goodIn_app (goodIn_of _ (by decide +kernel)) ggX1_place_X1_place
theorem dX1_place_0 : decode cX1_place 0 = .ok (.iload_n 1, 1) := by decide +kernel
theorem dX1_place_1 : decode cX1_place 1 = .ok (.aload_n 0, 1) := by decide +kernel
theorem dX1_place_2 : decode cX1_place 2 = .ok (.getfield 40, 3) := by decide +kernel
theorem dX1_place_5 : decode cX1_place 5 = .ok (.if_icmp .lt 26, 3) := by decide +kernel
theorem dX1_place_8 : decode cX1_place 8 = .ok (.aload_n 0, 1) := by decide +kernel
theorem dX1_place_9 : decode cX1_place 9 = .ok (.lload_n 2, 1) := by decide +kernel
theorem dX1_place_10 : decode cX1_place 10 = .ok (.putfield 46, 3) := by decide +kernel
theorem dX1_place_13 : decode cX1_place 13 = .ok (.aload_n 0, 1) := by decide +kernel
theorem dX1_place_14 : decode cX1_place 14 = .ok (.getfield 34, 3) := by decide +kernel
theorem dX1_place_17 : decode cX1_place 17 = .ok (.iconst 0, 1) := by decide +kernel
theorem dX1_place_18 : decode cX1_place 18 = .ok (.aload_n 0, 1) := by decide +kernel
theorem dX1_place_19 : decode cX1_place 19 = .ok (.getfield 37, 3) := by decide +kernel
theorem dX1_place_22 : decode cX1_place 22 = .ok (.iconst 0, 1) := by decide +kernel
theorem dX1_place_23 : decode cX1_place 23 = .ok (.aload_n 0, 1) := by decide +kernel
theorem dX1_place_24 : decode cX1_place 24 = .ok (.getfield 40, 3) := by decide +kernel
theorem dX1_place_27 : decode cX1_place 27 = .ok (.invokestatic 66, 3) := by decide +kernel
theorem dX1_place_30 : decode cX1_place 30 = .ok (.return_, 1) := by decide +kernel
theorem dX1_place_31 : decode cX1_place 31 = .ok (.iconst 0, 1) := by decide +kernel
theorem dX1_place_32 : decode cX1_place 32 = .ok (.istore 4, 2) := by decide +kernel
theorem dX1_place_34 : decode cX1_place 34 = .ok (.iload 4, 2) := by decide +kernel
theorem dX1_place_36 : decode cX1_place 36 = .ok (.aload_n 0, 1) := by decide +kernel
theorem dX1_place_37 : decode cX1_place 37 = .ok (.getfield 28, 3) := by decide +kernel
theorem dX1_place_40 : decode cX1_place 40 = .ok (.iload_n 1, 1) := by decide +kernel
theorem dX1_place_41 : decode cX1_place 41 = .ok (.iaload, 1) := by decide +kernel
theorem dX1_place_42 : decode cX1_place 42 = .ok (.if_icmp .ge 114, 3) := by decide +kernel
theorem dX1_place_45 : decode cX1_place 45 = .ok (.aload_n 0, 1) := by decide +kernel
theorem dX1_place_46 : decode cX1_place 46 = .ok (.getfield 25, 3) := by decide +kernel
theorem dX1_place_49 : decode cX1_place 49 = .ok (.iload_n 1, 1) := by decide +kernel
theorem dX1_place_50 : decode cX1_place 50 = .ok (.aaload, 1) := by decide +kernel
theorem dX1_place_51 : decode cX1_place 51 = .ok (.iload 4, 2) := by decide +kernel
theorem dX1_place_53 : decode cX1_place 53 = .ok (.iaload, 1) := by decide +kernel
theorem dX1_place_54 : decode cX1_place 54 = .ok (.istore 5, 2) := by decide +kernel
theorem dX1_place_56 : decode cX1_place 56 = .ok (.aload_n 0, 1) := by decide +kernel
theorem dX1_place_57 : decode cX1_place 57 = .ok (.getfield 31, 3) := by decide +kernel
theorem dX1_place_60 : decode cX1_place 60 = .ok (.iload_n 1, 1) := by decide +kernel
theorem dX1_place_61 : decode cX1_place 61 = .ok (.aaload, 1) := by decide +kernel
theorem dX1_place_62 : decode cX1_place 62 = .ok (.iload_n 1, 1) := by decide +kernel
theorem dX1_place_63 : decode cX1_place 63 = .ok (.laload, 1) := by decide +kernel
theorem dX1_place_64 : decode cX1_place 64 = .ok (.iload 5, 2) := by decide +kernel
theorem dX1_place_66 : decode cX1_place 66 = .ok (.invokestatic 72, 3) := by decide +kernel
theorem dX1_place_69 : decode cX1_place 69 = .ok (.ifCond .eq 81, 3) := by decide +kernel
theorem dX1_place_72 : decode cX1_place 72 = .ok (.lload_n 2, 1) := by decide +kernel
theorem dX1_place_73 : decode cX1_place 73 = .ok (.aload_n 0, 1) := by decide +kernel
theorem dX1_place_74 : decode cX1_place 74 = .ok (.getfield 22, 3) := by decide +kernel
theorem dX1_place_77 : decode cX1_place 77 = .ok (.iload_n 1, 1) := by decide +kernel
theorem dX1_place_78 : decode cX1_place 78 = .ok (.aaload, 1) := by decide +kernel
theorem dX1_place_79 : decode cX1_place 79 = .ok (.iload 5, 2) := by decide +kernel
theorem dX1_place_81 : decode cX1_place 81 = .ok (.laload, 1) := by decide +kernel
theorem dX1_place_82 : decode cX1_place 82 = .ok (.ladd, 1) := by decide +kernel
theorem dX1_place_83 : decode cX1_place 83 = .ok (.lstore 6, 2) := by decide +kernel
theorem dX1_place_85 : decode cX1_place 85 = .ok (.lload 6, 2) := by decide +kernel
theorem dX1_place_87 : decode cX1_place 87 = .ok (.aload_n 0, 1) := by decide +kernel
theorem dX1_place_88 : decode cX1_place 88 = .ok (.iload_n 1, 1) := by decide +kernel
theorem dX1_place_89 : decode cX1_place 89 = .ok (.iload_n 1, 1) := by decide +kernel
theorem dX1_place_90 : decode cX1_place 90 = .ok (.iconst 1, 1) := by decide +kernel
theorem dX1_place_91 : decode cX1_place 91 = .ok (.iadd, 1) := by decide +kernel
theorem dX1_place_92 : decode cX1_place 92 = .ok (.invokevirtual 76, 3) := by decide +kernel
theorem dX1_place_95 : decode cX1_place 95 = .ok (.ladd, 1) := by decide +kernel
theorem dX1_place_96 : decode cX1_place 96 = .ok (.aload_n 0, 1) := by decide +kernel
theorem dX1_place_97 : decode cX1_place 97 = .ok (.getfield 46, 3) := by decide +kernel
theorem dX1_place_100 : decode cX1_place 100 = .ok (.lcmp, 1) := by decide +kernel
theorem dX1_place_101 : decode cX1_place 101 = .ok (.ifCond .lt 4, 3) := by decide +kernel
theorem dX1_place_104 : decode cX1_place 104 = .ok (.return_, 1) := by decide +kernel
theorem dX1_place_105 : decode cX1_place 105 = .ok (.aload_n 0, 1) := by decide +kernel
theorem dX1_place_106 : decode cX1_place 106 = .ok (.getfield 34, 3) := by decide +kernel
theorem dX1_place_109 : decode cX1_place 109 = .ok (.iload_n 1, 1) := by decide +kernel
theorem dX1_place_110 : decode cX1_place 110 = .ok (.iload 5, 2) := by decide +kernel
theorem dX1_place_112 : decode cX1_place 112 = .ok (.iastore, 1) := by decide +kernel
theorem dX1_place_113 : decode cX1_place 113 = .ok (.aload_n 0, 1) := by decide +kernel
theorem dX1_place_114 : decode cX1_place 114 = .ok (.iload_n 1, 1) := by decide +kernel
theorem dX1_place_115 : decode cX1_place 115 = .ok (.iload 5, 2) := by decide +kernel
theorem dX1_place_117 : decode cX1_place 117 = .ok (.invokevirtual 79, 3) := by decide +kernel
theorem dX1_place_120 : decode cX1_place 120 = .ok (.lload 6, 2) := by decide +kernel
theorem dX1_place_122 : decode cX1_place 122 = .ok (.aload_n 0, 1) := by decide +kernel
theorem dX1_place_123 : decode cX1_place 123 = .ok (.iload_n 1, 1) := by decide +kernel
theorem dX1_place_124 : decode cX1_place 124 = .ok (.iconst 1, 1) := by decide +kernel
theorem dX1_place_125 : decode cX1_place 125 = .ok (.iadd, 1) := by decide +kernel
theorem dX1_place_126 : decode cX1_place 126 = .ok (.iload_n 1, 1) := by decide +kernel
theorem dX1_place_127 : decode cX1_place 127 = .ok (.iconst 1, 1) := by decide +kernel
theorem dX1_place_128 : decode cX1_place 128 = .ok (.iadd, 1) := by decide +kernel
theorem dX1_place_129 : decode cX1_place 129 = .ok (.invokevirtual 76, 3) := by decide +kernel
theorem dX1_place_132 : decode cX1_place 132 = .ok (.ladd, 1) := by decide +kernel
theorem dX1_place_133 : decode cX1_place 133 = .ok (.aload_n 0, 1) := by decide +kernel
theorem dX1_place_134 : decode cX1_place 134 = .ok (.getfield 46, 3) := by decide +kernel
theorem dX1_place_137 : decode cX1_place 137 = .ok (.lcmp, 1) := by decide +kernel
theorem dX1_place_138 : decode cX1_place 138 = .ok (.ifCond .ge 12, 3) := by decide +kernel
theorem dX1_place_141 : decode cX1_place 141 = .ok (.aload_n 0, 1) := by decide +kernel
theorem dX1_place_142 : decode cX1_place 142 = .ok (.iload_n 1, 1) := by decide +kernel
theorem dX1_place_143 : decode cX1_place 143 = .ok (.iconst 1, 1) := by decide +kernel
theorem dX1_place_144 : decode cX1_place 144 = .ok (.iadd, 1) := by decide +kernel
theorem dX1_place_145 : decode cX1_place 145 = .ok (.lload 6, 2) := by decide +kernel
theorem dX1_place_147 : decode cX1_place 147 = .ok (.invokevirtual 62, 3) := by decide +kernel
theorem dX1_place_150 : decode cX1_place 150 = .ok (.iinc 4 1, 3) := by decide +kernel
theorem dX1_place_153 : decode cX1_place 153 = .ok (.goto (-119), 3) := by decide +kernel
theorem dX1_place_156 : decode cX1_place 156 = .ok (.return_, 1) := by decide +kernel
set_option maxRecDepth 20000 in
theorem ggX1_lightestLeft_X1_lightest : GoodIn wsX1_lightestLeft wsX1_lightest := goodIn_r _ [8, 9, 10, 11, 3, 12, 13, 14, 15, 16, 17, 18, 19, 20, 21, 22, 23, 24] (by decide +kernel) (by decide +kernel)
set_option maxRecDepth 20000 in
theorem gX1_lightestLeft_X1_lightest : GoodIn wsX1_lightestLeft (wsV RX1 83 RX1 yX1_lightest wsX1_lightest) := goodIn_app (goodIn_of _ (by decide +kernel)) ggX1_lightestLeft_X1_lightest
theorem dX1_lightestLeft_0 : decode cX1_lightestLeft 0 = .ok (.lconst 0, 1) := by decide +kernel
theorem dX1_lightestLeft_1 : decode cX1_lightestLeft 1 = .ok (.lstore_n 3, 1) := by decide +kernel
theorem dX1_lightestLeft_2 : decode cX1_lightestLeft 2 = .ok (.iload_n 2, 1) := by decide +kernel
theorem dX1_lightestLeft_3 : decode cX1_lightestLeft 3 = .ok (.istore 5, 2) := by decide +kernel
theorem dX1_lightestLeft_5 : decode cX1_lightestLeft 5 = .ok (.iload 5, 2) := by decide +kernel
theorem dX1_lightestLeft_7 : decode cX1_lightestLeft 7 = .ok (.aload_n 0, 1) := by decide +kernel
theorem dX1_lightestLeft_8 : decode cX1_lightestLeft 8 = .ok (.getfield 40, 3) := by decide +kernel
theorem dX1_lightestLeft_11 : decode cX1_lightestLeft 11 = .ok (.if_icmp .ge 45, 3) := by decide +kernel
theorem dX1_lightestLeft_14 : decode cX1_lightestLeft 14 = .ok (.aload_n 0, 1) := by decide +kernel
theorem dX1_lightestLeft_15 : decode cX1_lightestLeft 15 = .ok (.getfield 31, 3) := by decide +kernel
theorem dX1_lightestLeft_18 : decode cX1_lightestLeft 18 = .ok (.iload_n 1, 1) := by decide +kernel
theorem dX1_lightestLeft_19 : decode cX1_lightestLeft 19 = .ok (.aaload, 1) := by decide +kernel
theorem dX1_lightestLeft_20 : decode cX1_lightestLeft 20 = .ok (.iload 5, 2) := by decide +kernel
theorem dX1_lightestLeft_22 : decode cX1_lightestLeft 22 = .ok (.laload, 1) := by decide +kernel
theorem dX1_lightestLeft_23 : decode cX1_lightestLeft 23 = .ok (.lconst 0, 1) := by decide +kernel
theorem dX1_lightestLeft_24 : decode cX1_lightestLeft 24 = .ok (.lcmp, 1) := by decide +kernel
theorem dX1_lightestLeft_25 : decode cX1_lightestLeft 25 = .ok (.ifCond .ne 7, 3) := by decide +kernel
theorem dX1_lightestLeft_28 : decode cX1_lightestLeft 28 = .ok (.ldc2_w 44, 3) := by decide +kernel
theorem dX1_lightestLeft_31 : decode cX1_lightestLeft 31 = .ok (.lreturn, 1) := by decide +kernel
theorem dX1_lightestLeft_32 : decode cX1_lightestLeft 32 = .ok (.lload_n 3, 1) := by decide +kernel
theorem dX1_lightestLeft_33 : decode cX1_lightestLeft 33 = .ok (.aload_n 0, 1) := by decide +kernel
theorem dX1_lightestLeft_34 : decode cX1_lightestLeft 34 = .ok (.iload 5, 2) := by decide +kernel
theorem dX1_lightestLeft_36 : decode cX1_lightestLeft 36 = .ok (.aload_n 0, 1) := by decide +kernel
theorem dX1_lightestLeft_37 : decode cX1_lightestLeft 37 = .ok (.getfield 31, 3) := by decide +kernel
theorem dX1_lightestLeft_40 : decode cX1_lightestLeft 40 = .ok (.iload_n 1, 1) := by decide +kernel
theorem dX1_lightestLeft_41 : decode cX1_lightestLeft 41 = .ok (.aaload, 1) := by decide +kernel
theorem dX1_lightestLeft_42 : decode cX1_lightestLeft 42 = .ok (.iload 5, 2) := by decide +kernel
theorem dX1_lightestLeft_44 : decode cX1_lightestLeft 44 = .ok (.laload, 1) := by decide +kernel
theorem dX1_lightestLeft_45 : decode cX1_lightestLeft 45 = .ok (.invokevirtual 83, 3) := by decide +kernel
theorem dX1_lightestLeft_48 : decode cX1_lightestLeft 48 = .ok (.ladd, 1) := by decide +kernel
theorem dX1_lightestLeft_49 : decode cX1_lightestLeft 49 = .ok (.lstore_n 3, 1) := by decide +kernel
theorem dX1_lightestLeft_50 : decode cX1_lightestLeft 50 = .ok (.iinc 5 1, 3) := by decide +kernel
theorem dX1_lightestLeft_53 : decode cX1_lightestLeft 53 = .ok (.goto (-48), 3) := by decide +kernel
theorem dX1_lightestLeft_56 : decode cX1_lightestLeft 56 = .ok (.lload_n 3, 1) := by decide +kernel
theorem dX1_lightestLeft_57 : decode cX1_lightestLeft 57 = .ok (.lreturn, 1) := by decide +kernel
set_option maxRecDepth 20000 in
theorem ggX1_lightest_X3_hasBit : GoodIn wsX1_lightest wsX3_hasBit := goodIn_r _ [7] (by decide +kernel) (by decide +kernel)
set_option maxRecDepth 20000 in
theorem gX1_lightest_X3_hasBit_n72 : GoodIn wsX1_lightest (wsX3_hasBit) := ggX1_lightest_X3_hasBit
theorem dX1_lightest_0 : decode cX1_lightest 0 = .ok (.iconst 0, 1) := by decide +kernel
theorem dX1_lightest_1 : decode cX1_lightest 1 = .ok (.istore 4, 2) := by decide +kernel
theorem dX1_lightest_3 : decode cX1_lightest 3 = .ok (.iload 4, 2) := by decide +kernel
theorem dX1_lightest_5 : decode cX1_lightest 5 = .ok (.aload_n 0, 1) := by decide +kernel
theorem dX1_lightest_6 : decode cX1_lightest 6 = .ok (.getfield 28, 3) := by decide +kernel
theorem dX1_lightest_9 : decode cX1_lightest 9 = .ok (.iload_n 1, 1) := by decide +kernel
theorem dX1_lightest_10 : decode cX1_lightest 10 = .ok (.iaload, 1) := by decide +kernel
theorem dX1_lightest_11 : decode cX1_lightest 11 = .ok (.if_icmp .ge 42, 3) := by decide +kernel
theorem dX1_lightest_14 : decode cX1_lightest 14 = .ok (.lload_n 2, 1) := by decide +kernel
theorem dX1_lightest_15 : decode cX1_lightest 15 = .ok (.aload_n 0, 1) := by decide +kernel
theorem dX1_lightest_16 : decode cX1_lightest 16 = .ok (.getfield 25, 3) := by decide +kernel
theorem dX1_lightest_19 : decode cX1_lightest 19 = .ok (.iload_n 1, 1) := by decide +kernel
theorem dX1_lightest_20 : decode cX1_lightest 20 = .ok (.aaload, 1) := by decide +kernel
theorem dX1_lightest_21 : decode cX1_lightest 21 = .ok (.iload 4, 2) := by decide +kernel
theorem dX1_lightest_23 : decode cX1_lightest 23 = .ok (.iaload, 1) := by decide +kernel
theorem dX1_lightest_24 : decode cX1_lightest 24 = .ok (.invokestatic 72, 3) := by decide +kernel
theorem dX1_lightest_27 : decode cX1_lightest 27 = .ok (.ifCond .eq 20, 3) := by decide +kernel
theorem dX1_lightest_30 : decode cX1_lightest 30 = .ok (.aload_n 0, 1) := by decide +kernel
theorem dX1_lightest_31 : decode cX1_lightest 31 = .ok (.getfield 22, 3) := by decide +kernel
theorem dX1_lightest_34 : decode cX1_lightest 34 = .ok (.iload_n 1, 1) := by decide +kernel
theorem dX1_lightest_35 : decode cX1_lightest 35 = .ok (.aaload, 1) := by decide +kernel
theorem dX1_lightest_36 : decode cX1_lightest 36 = .ok (.aload_n 0, 1) := by decide +kernel
theorem dX1_lightest_37 : decode cX1_lightest 37 = .ok (.getfield 25, 3) := by decide +kernel
theorem dX1_lightest_40 : decode cX1_lightest 40 = .ok (.iload_n 1, 1) := by decide +kernel
theorem dX1_lightest_41 : decode cX1_lightest 41 = .ok (.aaload, 1) := by decide +kernel
theorem dX1_lightest_42 : decode cX1_lightest 42 = .ok (.iload 4, 2) := by decide +kernel
theorem dX1_lightest_44 : decode cX1_lightest 44 = .ok (.iaload, 1) := by decide +kernel
theorem dX1_lightest_45 : decode cX1_lightest 45 = .ok (.laload, 1) := by decide +kernel
theorem dX1_lightest_46 : decode cX1_lightest 46 = .ok (.lreturn, 1) := by decide +kernel
theorem dX1_lightest_47 : decode cX1_lightest 47 = .ok (.iinc 4 1, 3) := by decide +kernel
theorem dX1_lightest_50 : decode cX1_lightest 50 = .ok (.goto (-47), 3) := by decide +kernel
theorem dX1_lightest_53 : decode cX1_lightest 53 = .ok (.ldc2_w 44, 3) := by decide +kernel
theorem dX1_lightest_56 : decode cX1_lightest 56 = .ok (.lreturn, 1) := by decide +kernel
set_option maxRecDepth 20000 in
theorem ggX1_narrow_X3_bitsFrom : GoodIn wsX1_narrow wsX3_bitsFrom := goodIn_r _ [15] (by decide +kernel) (by decide +kernel)
set_option maxRecDepth 20000 in
theorem gX1_narrow_X3_bitsFrom_n96 : GoodIn wsX1_narrow (wsX3_bitsFrom) := ggX1_narrow_X3_bitsFrom
theorem dX1_narrow_0 : decode cX1_narrow 0 = .ok (.iload_n 1, 1) := by decide +kernel
theorem dX1_narrow_1 : decode cX1_narrow 1 = .ok (.iconst 1, 1) := by decide +kernel
theorem dX1_narrow_2 : decode cX1_narrow 2 = .ok (.iadd, 1) := by decide +kernel
theorem dX1_narrow_3 : decode cX1_narrow 3 = .ok (.istore_n 3, 1) := by decide +kernel
theorem dX1_narrow_4 : decode cX1_narrow 4 = .ok (.iload_n 3, 1) := by decide +kernel
theorem dX1_narrow_5 : decode cX1_narrow 5 = .ok (.aload_n 0, 1) := by decide +kernel
theorem dX1_narrow_6 : decode cX1_narrow 6 = .ok (.getfield 40, 3) := by decide +kernel
theorem dX1_narrow_9 : decode cX1_narrow 9 = .ok (.if_icmp .ge 106, 3) := by decide +kernel
theorem dX1_narrow_12 : decode cX1_narrow 12 = .ok (.aload_n 0, 1) := by decide +kernel
theorem dX1_narrow_13 : decode cX1_narrow 13 = .ok (.getfield 17, 3) := by decide +kernel
theorem dX1_narrow_16 : decode cX1_narrow 16 = .ok (.iload_n 1, 1) := by decide +kernel
theorem dX1_narrow_17 : decode cX1_narrow 17 = .ok (.aaload, 1) := by decide +kernel
theorem dX1_narrow_18 : decode cX1_narrow 18 = .ok (.iload_n 3, 1) := by decide +kernel
theorem dX1_narrow_19 : decode cX1_narrow 19 = .ok (.iaload, 1) := by decide +kernel
theorem dX1_narrow_20 : decode cX1_narrow 20 = .ok (.istore 4, 2) := by decide +kernel
theorem dX1_narrow_22 : decode cX1_narrow 22 = .ok (.lconst 0, 1) := by decide +kernel
theorem dX1_narrow_23 : decode cX1_narrow 23 = .ok (.lstore 5, 2) := by decide +kernel
theorem dX1_narrow_25 : decode cX1_narrow 25 = .ok (.iload 4, 2) := by decide +kernel
theorem dX1_narrow_27 : decode cX1_narrow 27 = .ok (.iconst (-1), 1) := by decide +kernel
theorem dX1_narrow_28 : decode cX1_narrow 28 = .ok (.if_icmp .eq 56, 3) := by decide +kernel
theorem dX1_narrow_31 : decode cX1_narrow 31 = .ok (.iconst 0, 1) := by decide +kernel
theorem dX1_narrow_32 : decode cX1_narrow 32 = .ok (.iload_n 2, 1) := by decide +kernel
theorem dX1_narrow_33 : decode cX1_narrow 33 = .ok (.aload_n 0, 1) := by decide +kernel
theorem dX1_narrow_34 : decode cX1_narrow 34 = .ok (.getfield 9, 3) := by decide +kernel
theorem dX1_narrow_37 : decode cX1_narrow 37 = .ok (.iload_n 3, 1) := by decide +kernel
theorem dX1_narrow_38 : decode cX1_narrow 38 = .ok (.iaload, 1) := by decide +kernel
theorem dX1_narrow_39 : decode cX1_narrow 39 = .ok (.isub, 1) := by decide +kernel
theorem dX1_narrow_40 : decode cX1_narrow 40 = .ok (.iload 4, 2) := by decide +kernel
theorem dX1_narrow_42 : decode cX1_narrow 42 = .ok (.isub, 1) := by decide +kernel
theorem dX1_narrow_43 : decode cX1_narrow 43 = .ok (.iconst 1, 1) := by decide +kernel
theorem dX1_narrow_44 : decode cX1_narrow 44 = .ok (.iadd, 1) := by decide +kernel
theorem dX1_narrow_45 : decode cX1_narrow 45 = .ok (.invokestatic 87, 3) := by decide +kernel
theorem dX1_narrow_48 : decode cX1_narrow 48 = .ok (.istore 7, 2) := by decide +kernel
theorem dX1_narrow_50 : decode cX1_narrow 50 = .ok (.bipush 35, 2) := by decide +kernel
theorem dX1_narrow_52 : decode cX1_narrow 52 = .ok (.iload_n 2, 1) := by decide +kernel
theorem dX1_narrow_53 : decode cX1_narrow 53 = .ok (.aload_n 0, 1) := by decide +kernel
theorem dX1_narrow_54 : decode cX1_narrow 54 = .ok (.getfield 9, 3) := by decide +kernel
theorem dX1_narrow_57 : decode cX1_narrow 57 = .ok (.iload_n 1, 1) := by decide +kernel
theorem dX1_narrow_58 : decode cX1_narrow 58 = .ok (.iaload, 1) := by decide +kernel
theorem dX1_narrow_59 : decode cX1_narrow 59 = .ok (.iadd, 1) := by decide +kernel
theorem dX1_narrow_60 : decode cX1_narrow 60 = .ok (.iload 4, 2) := by decide +kernel
theorem dX1_narrow_62 : decode cX1_narrow 62 = .ok (.iadd, 1) := by decide +kernel
theorem dX1_narrow_63 : decode cX1_narrow 63 = .ok (.iconst 1, 1) := by decide +kernel
theorem dX1_narrow_64 : decode cX1_narrow 64 = .ok (.isub, 1) := by decide +kernel
theorem dX1_narrow_65 : decode cX1_narrow 65 = .ok (.invokestatic 93, 3) := by decide +kernel
theorem dX1_narrow_68 : decode cX1_narrow 68 = .ok (.istore 8, 2) := by decide +kernel
theorem dX1_narrow_70 : decode cX1_narrow 70 = .ok (.iload 7, 2) := by decide +kernel
theorem dX1_narrow_72 : decode cX1_narrow 72 = .ok (.iload 8, 2) := by decide +kernel
theorem dX1_narrow_74 : decode cX1_narrow 74 = .ok (.iload 7, 2) := by decide +kernel
theorem dX1_narrow_76 : decode cX1_narrow 76 = .ok (.isub, 1) := by decide +kernel
theorem dX1_narrow_77 : decode cX1_narrow 77 = .ok (.iconst 1, 1) := by decide +kernel
theorem dX1_narrow_78 : decode cX1_narrow 78 = .ok (.iadd, 1) := by decide +kernel
theorem dX1_narrow_79 : decode cX1_narrow 79 = .ok (.invokestatic 96, 3) := by decide +kernel
theorem dX1_narrow_82 : decode cX1_narrow 82 = .ok (.lstore 5, 2) := by decide +kernel
theorem dX1_narrow_84 : decode cX1_narrow 84 = .ok (.aload_n 0, 1) := by decide +kernel
theorem dX1_narrow_85 : decode cX1_narrow 85 = .ok (.getfield 31, 3) := by decide +kernel
theorem dX1_narrow_88 : decode cX1_narrow 88 = .ok (.iload_n 1, 1) := by decide +kernel
theorem dX1_narrow_89 : decode cX1_narrow 89 = .ok (.iconst 1, 1) := by decide +kernel
theorem dX1_narrow_90 : decode cX1_narrow 90 = .ok (.iadd, 1) := by decide +kernel
theorem dX1_narrow_91 : decode cX1_narrow 91 = .ok (.aaload, 1) := by decide +kernel
theorem dX1_narrow_92 : decode cX1_narrow 92 = .ok (.iload_n 3, 1) := by decide +kernel
theorem dX1_narrow_93 : decode cX1_narrow 93 = .ok (.aload_n 0, 1) := by decide +kernel
theorem dX1_narrow_94 : decode cX1_narrow 94 = .ok (.getfield 31, 3) := by decide +kernel
theorem dX1_narrow_97 : decode cX1_narrow 97 = .ok (.iload_n 1, 1) := by decide +kernel
theorem dX1_narrow_98 : decode cX1_narrow 98 = .ok (.aaload, 1) := by decide +kernel
theorem dX1_narrow_99 : decode cX1_narrow 99 = .ok (.iload_n 3, 1) := by decide +kernel
theorem dX1_narrow_100 : decode cX1_narrow 100 = .ok (.laload, 1) := by decide +kernel
theorem dX1_narrow_101 : decode cX1_narrow 101 = .ok (.lload 5, 2) := by decide +kernel
theorem dX1_narrow_103 : decode cX1_narrow 103 = .ok (.ldc2_w 99, 3) := by decide +kernel
theorem dX1_narrow_106 : decode cX1_narrow 106 = .ok (.lxor, 1) := by decide +kernel
theorem dX1_narrow_107 : decode cX1_narrow 107 = .ok (.land, 1) := by decide +kernel
theorem dX1_narrow_108 : decode cX1_narrow 108 = .ok (.lastore, 1) := by decide +kernel
theorem dX1_narrow_109 : decode cX1_narrow 109 = .ok (.iinc 3 1, 3) := by decide +kernel
theorem dX1_narrow_112 : decode cX1_narrow 112 = .ok (.goto (-108), 3) := by decide +kernel
theorem dX1_narrow_115 : decode cX1_narrow 115 = .ok (.return_, 1) := by decide +kernel
theorem dX2_init_0 : decode cX2_init 0 = .ok (.aload_n 0, 1) := by decide +kernel
theorem dX2_init_1 : decode cX2_init 1 = .ok (.invokespecial 3, 3) := by decide +kernel
theorem dX2_init_4 : decode cX2_init 4 = .ok (.aload_n 0, 1) := by decide +kernel
theorem dX2_init_5 : decode cX2_init 5 = .ok (.bipush 36, 2) := by decide +kernel
theorem dX2_init_7 : decode cX2_init 7 = .ok (.newarray .int, 2) := by decide +kernel
theorem dX2_init_9 : decode cX2_init 9 = .ok (.putfield 9, 3) := by decide +kernel
theorem dX2_init_12 : decode cX2_init 12 = .ok (.aload_n 0, 1) := by decide +kernel
theorem dX2_init_13 : decode cX2_init 13 = .ok (.iload_n 1, 1) := by decide +kernel
theorem dX2_init_14 : decode cX2_init 14 = .ok (.putfield 15, 3) := by decide +kernel
theorem dX2_init_17 : decode cX2_init 17 = .ok (.aload_n 0, 1) := by decide +kernel
theorem dX2_init_18 : decode cX2_init 18 = .ok (.iconst (-1), 1) := by decide +kernel
theorem dX2_init_19 : decode cX2_init 19 = .ok (.putfield 19, 3) := by decide +kernel
theorem dX2_init_22 : decode cX2_init 22 = .ok (.aload_n 0, 1) := by decide +kernel
theorem dX2_init_23 : decode cX2_init 23 = .ok (.iconst 0, 1) := by decide +kernel
theorem dX2_init_24 : decode cX2_init 24 = .ok (.putfield 22, 3) := by decide +kernel
theorem dX2_init_27 : decode cX2_init 27 = .ok (.return_, 1) := by decide +kernel
theorem dX2_isPlaced_0 : decode cX2_isPlaced 0 = .ok (.aload_n 0, 1) := by decide +kernel
theorem dX2_isPlaced_1 : decode cX2_isPlaced 1 = .ok (.getfield 19, 3) := by decide +kernel
theorem dX2_isPlaced_4 : decode cX2_isPlaced 4 = .ok (.iconst (-1), 1) := by decide +kernel
theorem dX2_isPlaced_5 : decode cX2_isPlaced 5 = .ok (.if_icmp .eq 7, 3) := by decide +kernel
theorem dX2_isPlaced_8 : decode cX2_isPlaced 8 = .ok (.iconst 1, 1) := by decide +kernel
theorem dX2_isPlaced_9 : decode cX2_isPlaced 9 = .ok (.goto 4, 3) := by decide +kernel
theorem dX2_isPlaced_12 : decode cX2_isPlaced 12 = .ok (.iconst 0, 1) := by decide +kernel
theorem dX2_isPlaced_13 : decode cX2_isPlaced 13 = .ok (.ireturn, 1) := by decide +kernel
theorem dX2_isFixed_0 : decode cX2_isFixed 0 = .ok (.aload_n 0, 1) := by decide +kernel
theorem dX2_isFixed_1 : decode cX2_isFixed 1 = .ok (.getfield 22, 3) := by decide +kernel
theorem dX2_isFixed_4 : decode cX2_isFixed 4 = .ok (.iconst 3, 1) := by decide +kernel
theorem dX2_isFixed_5 : decode cX2_isFixed 5 = .ok (.if_icmp .lt 7, 3) := by decide +kernel
theorem dX2_isFixed_8 : decode cX2_isFixed 8 = .ok (.iconst 1, 1) := by decide +kernel
theorem dX2_isFixed_9 : decode cX2_isFixed 9 = .ok (.goto 4, 3) := by decide +kernel
theorem dX2_isFixed_12 : decode cX2_isFixed 12 = .ok (.iconst 0, 1) := by decide +kernel
theorem dX2_isFixed_13 : decode cX2_isFixed 13 = .ok (.ireturn, 1) := by decide +kernel
theorem dX2_span_0 : decode cX2_span 0 = .ok (.aload_n 0, 1) := by decide +kernel
theorem dX2_span_1 : decode cX2_span 1 = .ok (.getfield 25, 3) := by decide +kernel
theorem dX2_span_4 : decode cX2_span 4 = .ok (.aload_n 0, 1) := by decide +kernel
theorem dX2_span_5 : decode cX2_span 5 = .ok (.getfield 28, 3) := by decide +kernel
theorem dX2_span_8 : decode cX2_span 8 = .ok (.iadd, 1) := by decide +kernel
theorem dX2_span_9 : decode cX2_span 9 = .ok (.ireturn, 1) := by decide +kernel
set_option maxRecDepth 20000 in
theorem ggX2_spanFrom_X2_span : GoodIn wsX2_spanFrom wsX2_span := goodIn_r _ [5, 6, 7, 11, 12, 13, 14, 15, 16, 17, 18, 19, 20] (by decide +kernel) (by decide +kernel)
set_option maxRecDepth 20000 in
theorem gX2_spanFrom_X2_span : GoodIn wsX2_spanFrom (wsV RX2 31 RX2 yX2_span wsX2_span) := goodIn_app (goodIn_of _ (by decide +kernel)) ggX2_spanFrom_X2_span
set_option maxRecDepth 20000 in
theorem ggX2_spanFrom_X3_bitsFrom : GoodIn wsX2_spanFrom wsX3_bitsFrom := goodIn_r _ [10] (by decide +kernel) (by decide +kernel)
set_option maxRecDepth 20000 in
theorem gX2_spanFrom_X3_bitsFrom_n35 : GoodIn wsX2_spanFrom (wsX3_bitsFrom) := ggX2_spanFrom_X3_bitsFrom
theorem dX2_spanFrom_0 : decode cX2_spanFrom 0 = .ok (.iload_n 1, 1) := by decide +kernel
theorem dX2_spanFrom_1 : decode cX2_spanFrom 1 = .ok (.aload_n 0, 1) := by decide +kernel
theorem dX2_spanFrom_2 : decode cX2_spanFrom 2 = .ok (.invokevirtual 31, 3) := by decide +kernel
theorem dX2_spanFrom_5 : decode cX2_spanFrom 5 = .ok (.invokestatic 35, 3) := by decide +kernel
theorem dX2_spanFrom_8 : decode cX2_spanFrom 8 = .ok (.lreturn, 1) := by decide +kernel
set_option maxRecDepth 20000 in
theorem ggX2_delayFrom_X2_span : GoodIn wsX2_delayFrom wsX2_span := goodIn_r _ [10, 11, 12, 13, 14, 15, 16, 17, 18, 19, 20, 21, 22] (by decide +kernel) (by decide +kernel)
set_option maxRecDepth 20000 in
theorem gX2_delayFrom_X2_span : GoodIn wsX2_delayFrom (wsV RX2 31 RX2 yX2_span wsX2_span) := goodIn_app (goodIn_of _ (by decide +kernel)) ggX2_delayFrom_X2_span
theorem dX2_delayFrom_0 : decode cX2_delayFrom 0 = .ok (.iload_n 1, 1) := by decide +kernel
theorem dX2_delayFrom_1 : decode cX2_delayFrom 1 = .ok (.aload_n 0, 1) := by decide +kernel
theorem dX2_delayFrom_2 : decode cX2_delayFrom 2 = .ok (.invokevirtual 31, 3) := by decide +kernel
theorem dX2_delayFrom_5 : decode cX2_delayFrom 5 = .ok (.iadd, 1) := by decide +kernel
theorem dX2_delayFrom_6 : decode cX2_delayFrom 6 = .ok (.bipush 36, 2) := by decide +kernel
theorem dX2_delayFrom_8 : decode cX2_delayFrom 8 = .ok (.invokestatic 39, 3) := by decide +kernel
theorem dX2_delayFrom_11 : decode cX2_delayFrom 11 = .ok (.istore_n 2, 1) := by decide +kernel
theorem dX2_delayFrom_12 : decode cX2_delayFrom 12 = .ok (.iconst 0, 1) := by decide +kernel
theorem dX2_delayFrom_13 : decode cX2_delayFrom 13 = .ok (.istore_n 3, 1) := by decide +kernel
theorem dX2_delayFrom_14 : decode cX2_delayFrom 14 = .ok (.iload_n 1, 1) := by decide +kernel
theorem dX2_delayFrom_15 : decode cX2_delayFrom 15 = .ok (.istore 4, 2) := by decide +kernel
theorem dX2_delayFrom_17 : decode cX2_delayFrom 17 = .ok (.iload 4, 2) := by decide +kernel
theorem dX2_delayFrom_19 : decode cX2_delayFrom 19 = .ok (.iload_n 2, 1) := by decide +kernel
theorem dX2_delayFrom_20 : decode cX2_delayFrom 20 = .ok (.if_icmp .ge 19, 3) := by decide +kernel
theorem dX2_delayFrom_23 : decode cX2_delayFrom 23 = .ok (.iload_n 3, 1) := by decide +kernel
theorem dX2_delayFrom_24 : decode cX2_delayFrom 24 = .ok (.aload_n 0, 1) := by decide +kernel
theorem dX2_delayFrom_25 : decode cX2_delayFrom 25 = .ok (.getfield 9, 3) := by decide +kernel
theorem dX2_delayFrom_28 : decode cX2_delayFrom 28 = .ok (.iload 4, 2) := by decide +kernel
theorem dX2_delayFrom_30 : decode cX2_delayFrom 30 = .ok (.iaload, 1) := by decide +kernel
theorem dX2_delayFrom_31 : decode cX2_delayFrom 31 = .ok (.iadd, 1) := by decide +kernel
theorem dX2_delayFrom_32 : decode cX2_delayFrom 32 = .ok (.istore_n 3, 1) := by decide +kernel
theorem dX2_delayFrom_33 : decode cX2_delayFrom 33 = .ok (.iinc 4 1, 3) := by decide +kernel
theorem dX2_delayFrom_36 : decode cX2_delayFrom 36 = .ok (.goto (-19), 3) := by decide +kernel
theorem dX2_delayFrom_39 : decode cX2_delayFrom 39 = .ok (.iload_n 3, 1) := by decide +kernel
theorem dX2_delayFrom_40 : decode cX2_delayFrom 40 = .ok (.ireturn, 1) := by decide +kernel
set_option maxRecDepth 20000 in
theorem ggX2_firstBrokenAlone_X2_span : GoodIn wsX2_firstBrokenAlone wsX2_span := goodIn_r _ [11, 4, 5, 19, 20, 21, 22, 23, 24, 25, 26, 27, 28] (by decide +kernel) (by decide +kernel)
set_option maxRecDepth 20000 in
theorem gX2_firstBrokenAlone_X2_span : GoodIn wsX2_firstBrokenAlone (wsV RX2 31 RX2 yX2_span wsX2_span) := goodIn_app (goodIn_of _ (by decide +kernel)) ggX2_firstBrokenAlone_X2_span
set_option maxRecDepth 20000 in
theorem ggX2_firstBrokenAlone_X2_spanFrom : GoodIn wsX2_firstBrokenAlone wsX2_spanFrom := goodIn_r _ [15, 7, 8, 9, 10, 11, 4, 5, 16, 17, 18, 19, 20, 21, 22, 23, 24, 25, 26, 27, 28] (by decide +kernel) (by decide +kernel)
set_option maxRecDepth 20000 in
theorem gX2_firstBrokenAlone_X2_spanFrom : GoodIn wsX2_firstBrokenAlone (wsV RX2 45 RX2 yX2_spanFrom wsX2_spanFrom) := goodIn_app (goodIn_of _ (by decide +kernel)) ggX2_firstBrokenAlone_X2_spanFrom
set_option maxRecDepth 20000 in
theorem ggX2_firstBrokenAlone_X3_bitsFrom : GoodIn wsX2_firstBrokenAlone wsX3_bitsFrom := goodIn_r _ [18] (by decide +kernel) (by decide +kernel)
set_option maxRecDepth 20000 in
theorem gX2_firstBrokenAlone_X3_bitsFrom_n35 : GoodIn wsX2_firstBrokenAlone (wsX3_bitsFrom) := ggX2_firstBrokenAlone_X3_bitsFrom
theorem dX2_firstBrokenAlone_0 : decode cX2_firstBrokenAlone 0 = .ok (.iload_n 1, 1) := by decide +kernel
theorem dX2_firstBrokenAlone_1 : decode cX2_firstBrokenAlone 1 = .ok (.aload_n 0, 1) := by decide +kernel
theorem dX2_firstBrokenAlone_2 : decode cX2_firstBrokenAlone 2 = .ok (.invokevirtual 31, 3) := by decide +kernel
theorem dX2_firstBrokenAlone_5 : decode cX2_firstBrokenAlone 5 = .ok (.iadd, 1) := by decide +kernel
theorem dX2_firstBrokenAlone_6 : decode cX2_firstBrokenAlone 6 = .ok (.iload_n 2, 1) := by decide +kernel
theorem dX2_firstBrokenAlone_7 : decode cX2_firstBrokenAlone 7 = .ok (.if_icmp .le 5, 3) := by decide +kernel
theorem dX2_firstBrokenAlone_10 : decode cX2_firstBrokenAlone 10 = .ok (.iconst 1, 1) := by decide +kernel
theorem dX2_firstBrokenAlone_11 : decode cX2_firstBrokenAlone 11 = .ok (.ireturn, 1) := by decide +kernel
theorem dX2_firstBrokenAlone_12 : decode cX2_firstBrokenAlone 12 = .ok (.aload_n 0, 1) := by decide +kernel
theorem dX2_firstBrokenAlone_13 : decode cX2_firstBrokenAlone 13 = .ok (.iload_n 1, 1) := by decide +kernel
theorem dX2_firstBrokenAlone_14 : decode cX2_firstBrokenAlone 14 = .ok (.invokevirtual 45, 3) := by decide +kernel
theorem dX2_firstBrokenAlone_17 : decode cX2_firstBrokenAlone 17 = .ok (.lstore_n 3, 1) := by decide +kernel
theorem dX2_firstBrokenAlone_18 : decode cX2_firstBrokenAlone 18 = .ok (.aload_n 0, 1) := by decide +kernel
theorem dX2_firstBrokenAlone_19 : decode cX2_firstBrokenAlone 19 = .ok (.getfield 49, 3) := by decide +kernel
theorem dX2_firstBrokenAlone_22 : decode cX2_firstBrokenAlone 22 = .ok (.ifCond .eq 15, 3) := by decide +kernel
theorem dX2_firstBrokenAlone_25 : decode cX2_firstBrokenAlone 25 = .ok (.lload_n 3, 1) := by decide +kernel
theorem dX2_firstBrokenAlone_26 : decode cX2_firstBrokenAlone 26 = .ok (.ldc2_w 53, 3) := by decide +kernel
theorem dX2_firstBrokenAlone_29 : decode cX2_firstBrokenAlone 29 = .ok (.land, 1) := by decide +kernel
theorem dX2_firstBrokenAlone_30 : decode cX2_firstBrokenAlone 30 = .ok (.lconst 0, 1) := by decide +kernel
theorem dX2_firstBrokenAlone_31 : decode cX2_firstBrokenAlone 31 = .ok (.lcmp, 1) := by decide +kernel
theorem dX2_firstBrokenAlone_32 : decode cX2_firstBrokenAlone 32 = .ok (.ifCond .eq 5, 3) := by decide +kernel
theorem dX2_firstBrokenAlone_35 : decode cX2_firstBrokenAlone 35 = .ok (.iconst 2, 1) := by decide +kernel
theorem dX2_firstBrokenAlone_36 : decode cX2_firstBrokenAlone 36 = .ok (.ireturn, 1) := by decide +kernel
theorem dX2_firstBrokenAlone_37 : decode cX2_firstBrokenAlone 37 = .ok (.lload_n 3, 1) := by decide +kernel
theorem dX2_firstBrokenAlone_38 : decode cX2_firstBrokenAlone 38 = .ok (.aload_n 0, 1) := by decide +kernel
theorem dX2_firstBrokenAlone_39 : decode cX2_firstBrokenAlone 39 = .ok (.getfield 55, 3) := by decide +kernel
theorem dX2_firstBrokenAlone_42 : decode cX2_firstBrokenAlone 42 = .ok (.land, 1) := by decide +kernel
theorem dX2_firstBrokenAlone_43 : decode cX2_firstBrokenAlone 43 = .ok (.lconst 0, 1) := by decide +kernel
theorem dX2_firstBrokenAlone_44 : decode cX2_firstBrokenAlone 44 = .ok (.lcmp, 1) := by decide +kernel
theorem dX2_firstBrokenAlone_45 : decode cX2_firstBrokenAlone 45 = .ok (.ifCond .eq 5, 3) := by decide +kernel
theorem dX2_firstBrokenAlone_48 : decode cX2_firstBrokenAlone 48 = .ok (.iconst 3, 1) := by decide +kernel
theorem dX2_firstBrokenAlone_49 : decode cX2_firstBrokenAlone 49 = .ok (.ireturn, 1) := by decide +kernel
theorem dX2_firstBrokenAlone_50 : decode cX2_firstBrokenAlone 50 = .ok (.iload_n 1, 1) := by decide +kernel
theorem dX2_firstBrokenAlone_51 : decode cX2_firstBrokenAlone 51 = .ok (.aload_n 0, 1) := by decide +kernel
theorem dX2_firstBrokenAlone_52 : decode cX2_firstBrokenAlone 52 = .ok (.getfield 25, 3) := by decide +kernel
theorem dX2_firstBrokenAlone_55 : decode cX2_firstBrokenAlone 55 = .ok (.iadd, 1) := by decide +kernel
theorem dX2_firstBrokenAlone_56 : decode cX2_firstBrokenAlone 56 = .ok (.aload_n 0, 1) := by decide +kernel
theorem dX2_firstBrokenAlone_57 : decode cX2_firstBrokenAlone 57 = .ok (.getfield 28, 3) := by decide +kernel
theorem dX2_firstBrokenAlone_60 : decode cX2_firstBrokenAlone 60 = .ok (.invokestatic 35, 3) := by decide +kernel
theorem dX2_firstBrokenAlone_63 : decode cX2_firstBrokenAlone 63 = .ok (.aload_n 0, 1) := by decide +kernel
theorem dX2_firstBrokenAlone_64 : decode cX2_firstBrokenAlone 64 = .ok (.getfield 59, 3) := by decide +kernel
theorem dX2_firstBrokenAlone_67 : decode cX2_firstBrokenAlone 67 = .ok (.land, 1) := by decide +kernel
theorem dX2_firstBrokenAlone_68 : decode cX2_firstBrokenAlone 68 = .ok (.lconst 0, 1) := by decide +kernel
theorem dX2_firstBrokenAlone_69 : decode cX2_firstBrokenAlone 69 = .ok (.lcmp, 1) := by decide +kernel
theorem dX2_firstBrokenAlone_70 : decode cX2_firstBrokenAlone 70 = .ok (.ifCond .eq 7, 3) := by decide +kernel
theorem dX2_firstBrokenAlone_73 : decode cX2_firstBrokenAlone 73 = .ok (.iconst 4, 1) := by decide +kernel
theorem dX2_firstBrokenAlone_74 : decode cX2_firstBrokenAlone 74 = .ok (.goto 4, 3) := by decide +kernel
theorem dX2_firstBrokenAlone_77 : decode cX2_firstBrokenAlone 77 = .ok (.iconst 0, 1) := by decide +kernel
theorem dX2_firstBrokenAlone_78 : decode cX2_firstBrokenAlone 78 = .ok (.ireturn, 1) := by decide +kernel
set_option maxRecDepth 20000 in
theorem ggX2_isApart_X2_span : GoodIn wsX2_isApart wsX2_span := goodIn_r _ [6, 7, 8, 9, 10, 11, 12, 13, 14, 15, 16, 17, 18] (by decide +kernel) (by decide +kernel)
set_option maxRecDepth 20000 in
theorem gX2_isApart_X2_span : GoodIn wsX2_isApart (wsV RX2 31 RX2 yX2_span wsX2_span) := goodIn_app (goodIn_of _ (by decide +kernel)) ggX2_isApart_X2_span
theorem dX2_isApart_0 : decode cX2_isApart 0 = .ok (.iload_n 1, 1) := by decide +kernel
theorem dX2_isApart_1 : decode cX2_isApart 1 = .ok (.aload_n 0, 1) := by decide +kernel
theorem dX2_isApart_2 : decode cX2_isApart 2 = .ok (.invokevirtual 31, 3) := by decide +kernel
theorem dX2_isApart_5 : decode cX2_isApart 5 = .ok (.iadd, 1) := by decide +kernel
theorem dX2_isApart_6 : decode cX2_isApart 6 = .ok (.iload_n 3, 1) := by decide +kernel
theorem dX2_isApart_7 : decode cX2_isApart 7 = .ok (.iadd, 1) := by decide +kernel
theorem dX2_isApart_8 : decode cX2_isApart 8 = .ok (.aload_n 2, 1) := by decide +kernel
theorem dX2_isApart_9 : decode cX2_isApart 9 = .ok (.getfield 19, 3) := by decide +kernel
theorem dX2_isApart_12 : decode cX2_isApart 12 = .ok (.if_icmp .le 18, 3) := by decide +kernel
theorem dX2_isApart_15 : decode cX2_isApart 15 = .ok (.aload_n 2, 1) := by decide +kernel
theorem dX2_isApart_16 : decode cX2_isApart 16 = .ok (.getfield 19, 3) := by decide +kernel
theorem dX2_isApart_19 : decode cX2_isApart 19 = .ok (.aload_n 2, 1) := by decide +kernel
theorem dX2_isApart_20 : decode cX2_isApart 20 = .ok (.invokevirtual 31, 3) := by decide +kernel
theorem dX2_isApart_23 : decode cX2_isApart 23 = .ok (.iadd, 1) := by decide +kernel
theorem dX2_isApart_24 : decode cX2_isApart 24 = .ok (.iload_n 3, 1) := by decide +kernel
theorem dX2_isApart_25 : decode cX2_isApart 25 = .ok (.iadd, 1) := by decide +kernel
theorem dX2_isApart_26 : decode cX2_isApart 26 = .ok (.iload_n 1, 1) := by decide +kernel
theorem dX2_isApart_27 : decode cX2_isApart 27 = .ok (.if_icmp .gt 7, 3) := by decide +kernel
theorem dX2_isApart_30 : decode cX2_isApart 30 = .ok (.iconst 1, 1) := by decide +kernel
theorem dX2_isApart_31 : decode cX2_isApart 31 = .ok (.goto 4, 3) := by decide +kernel
theorem dX2_isApart_34 : decode cX2_isApart 34 = .ok (.iconst 0, 1) := by decide +kernel
theorem dX2_isApart_35 : decode cX2_isApart 35 = .ok (.ireturn, 1) := by decide +kernel
set_option maxRecDepth 20000 in
theorem ggX3_init_X2_init : GoodIn wsX3_init wsX2_init := goodIn_r _ [27, 28, 2, 3, 16, 29, 30, 31, 32, 60, 61, 62, 63, 64, 65, 66, 67, 68, 69] (by decide +kernel) (by decide +kernel)
set_option maxRecDepth 20000 in
theorem gX3_init_X2_init_n28 : GoodIn wsX3_init (wsX2_init) := ggX3_init_X2_init
set_option maxRecDepth 20000 in
theorem ggX3_init_X0_init : GoodIn wsX3_init wsX0_init := goodIn_r _ [34, 35, 2, 3, 16, 36, 37, 70, 71, 72] (by decide +kernel) (by decide +kernel)
set_option maxRecDepth 20000 in
theorem gX3_init_X0_init_n37 : GoodIn wsX3_init (wsX0_init) := ggX3_init_X0_init
set_option maxRecDepth 20000 in
theorem ggX3_init_X1_init : GoodIn wsX3_init wsX1_init := goodIn_r _ [39, 40, 2, 3, 16, 41, 42, 43, 44, 45, 46, 47, 48, 49, 50, 51, 73, 74, 75, 76, 77, 78, 79, 80, 81, 82] (by decide +kernel) (by decide +kernel)
set_option maxRecDepth 20000 in
theorem gX3_init_X1_init_n44 : GoodIn wsX3_init (wsX1_init) := ggX3_init_X1_init
theorem dX3_init_0 : decode cX3_init 0 = .ok (.aload_n 0, 1) := by decide +kernel
theorem dX3_init_1 : decode cX3_init 1 = .ok (.invokespecial 1, 3) := by decide +kernel
theorem dX3_init_4 : decode cX3_init 4 = .ok (.aload_n 0, 1) := by decide +kernel
theorem dX3_init_5 : decode cX3_init 5 = .ok (.iconst 1, 1) := by decide +kernel
theorem dX3_init_6 : decode cX3_init 6 = .ok (.bipush 36, 2) := by decide +kernel
theorem dX3_init_8 : decode cX3_init 8 = .ok (.iload_n 1, 1) := by decide +kernel
theorem dX3_init_9 : decode cX3_init 9 = .ok (.invokestatic 9, 3) := by decide +kernel
theorem dX3_init_12 : decode cX3_init 12 = .ok (.invokestatic 15, 3) := by decide +kernel
theorem dX3_init_15 : decode cX3_init 15 = .ok (.putfield 18, 3) := by decide +kernel
theorem dX3_init_18 : decode cX3_init 18 = .ok (.aload_n 0, 1) := by decide +kernel
theorem dX3_init_19 : decode cX3_init 19 = .ok (.iconst 4, 1) := by decide +kernel
theorem dX3_init_20 : decode cX3_init 20 = .ok (.anewarray 22, 3) := by decide +kernel
theorem dX3_init_23 : decode cX3_init 23 = .ok (.putfield 24, 3) := by decide +kernel
theorem dX3_init_26 : decode cX3_init 26 = .ok (.iconst 0, 1) := by decide +kernel
theorem dX3_init_27 : decode cX3_init 27 = .ok (.istore_n 2, 1) := by decide +kernel
theorem dX3_init_28 : decode cX3_init 28 = .ok (.iload_n 2, 1) := by decide +kernel
theorem dX3_init_29 : decode cX3_init 29 = .ok (.iconst 4, 1) := by decide +kernel
theorem dX3_init_30 : decode cX3_init 30 = .ok (.if_icmp .ge 23, 3) := by decide +kernel
theorem dX3_init_33 : decode cX3_init 33 = .ok (.aload_n 0, 1) := by decide +kernel
theorem dX3_init_34 : decode cX3_init 34 = .ok (.getfield 24, 3) := by decide +kernel
theorem dX3_init_37 : decode cX3_init 37 = .ok (.iload_n 2, 1) := by decide +kernel
theorem dX3_init_38 : decode cX3_init 38 = .ok (.new 22, 3) := by decide +kernel
theorem dX3_init_41 : decode cX3_init 41 = .ok (.dup, 1) := by decide +kernel
theorem dX3_init_42 : decode cX3_init 42 = .ok (.iload_n 2, 1) := by decide +kernel
theorem dX3_init_43 : decode cX3_init 43 = .ok (.invokespecial 28, 3) := by decide +kernel
theorem dX3_init_46 : decode cX3_init 46 = .ok (.aastore, 1) := by decide +kernel
theorem dX3_init_47 : decode cX3_init 47 = .ok (.iinc 2 1, 3) := by decide +kernel
theorem dX3_init_50 : decode cX3_init 50 = .ok (.goto (-22), 3) := by decide +kernel
theorem dX3_init_53 : decode cX3_init 53 = .ok (.aload_n 0, 1) := by decide +kernel
theorem dX3_init_54 : decode cX3_init 54 = .ok (.iconst 4, 1) := by decide +kernel
theorem dX3_init_55 : decode cX3_init 55 = .ok (.newarray .int, 2) := by decide +kernel
theorem dX3_init_57 : decode cX3_init 57 = .ok (.putfield 31, 3) := by decide +kernel
theorem dX3_init_60 : decode cX3_init 60 = .ok (.aload_n 0, 1) := by decide +kernel
theorem dX3_init_61 : decode cX3_init 61 = .ok (.new 35, 3) := by decide +kernel
theorem dX3_init_64 : decode cX3_init 64 = .ok (.dup, 1) := by decide +kernel
theorem dX3_init_65 : decode cX3_init 65 = .ok (.invokespecial 37, 3) := by decide +kernel
theorem dX3_init_68 : decode cX3_init 68 = .ok (.putfield 38, 3) := by decide +kernel
theorem dX3_init_71 : decode cX3_init 71 = .ok (.aload_n 0, 1) := by decide +kernel
theorem dX3_init_72 : decode cX3_init 72 = .ok (.new 42, 3) := by decide +kernel
theorem dX3_init_75 : decode cX3_init 75 = .ok (.dup, 1) := by decide +kernel
theorem dX3_init_76 : decode cX3_init 76 = .ok (.invokespecial 44, 3) := by decide +kernel
theorem dX3_init_79 : decode cX3_init 79 = .ok (.putfield 45, 3) := by decide +kernel
theorem dX3_init_82 : decode cX3_init 82 = .ok (.return_, 1) := by decide +kernel
set_option maxRecDepth 20000 in
theorem ggX3_work_X3_isWithin : GoodIn wsX3_work wsX3_isWithin := goodIn_r _ [6] (by decide +kernel) (by decide +kernel)
set_option maxRecDepth 20000 in
theorem gX3_work_X3_isWithin : GoodIn wsX3_work (va_wsS RX3 49 yX3_isWithin wsX3_isWithin) := goodIn_app (goodIn_of _ (by decide +kernel)) ggX3_work_X3_isWithin
theorem dX3_work_0 : decode cX3_work 0 = .ok (.iload_n 1, 1) := by decide +kernel
theorem dX3_work_1 : decode cX3_work 1 = .ok (.iconst 1, 1) := by decide +kernel
theorem dX3_work_2 : decode cX3_work 2 = .ok (.bipush 12, 2) := by decide +kernel
theorem dX3_work_4 : decode cX3_work 4 = .ok (.invokestatic 49, 3) := by decide +kernel
theorem dX3_work_7 : decode cX3_work 7 = .ok (.ifCond .eq 16, 3) := by decide +kernel
theorem dX3_work_10 : decode cX3_work 10 = .ok (.iload_n 2, 1) := by decide +kernel
theorem dX3_work_11 : decode cX3_work 11 = .ok (.iconst 0, 1) := by decide +kernel
theorem dX3_work_12 : decode cX3_work 12 = .ok (.iconst 3, 1) := by decide +kernel
theorem dX3_work_13 : decode cX3_work 13 = .ok (.invokestatic 49, 3) := by decide +kernel
theorem dX3_work_16 : decode cX3_work 16 = .ok (.ifCond .eq 7, 3) := by decide +kernel
theorem dX3_work_19 : decode cX3_work 19 = .ok (.iconst 1, 1) := by decide +kernel
theorem dX3_work_20 : decode cX3_work 20 = .ok (.goto 4, 3) := by decide +kernel
theorem dX3_work_23 : decode cX3_work 23 = .ok (.iconst 0, 1) := by decide +kernel
theorem dX3_work_24 : decode cX3_work 24 = .ok (.istore_n 3, 1) := by decide +kernel
theorem dX3_work_25 : decode cX3_work 25 = .ok (.aload_n 0, 1) := by decide +kernel
theorem dX3_work_26 : decode cX3_work 26 = .ok (.getfield 53, 3) := by decide +kernel
theorem dX3_work_29 : decode cX3_work 29 = .ok (.iconst 4, 1) := by decide +kernel
theorem dX3_work_30 : decode cX3_work 30 = .ok (.if_icmp .ge 7, 3) := by decide +kernel
theorem dX3_work_33 : decode cX3_work 33 = .ok (.iload_n 3, 1) := by decide +kernel
theorem dX3_work_34 : decode cX3_work 34 = .ok (.ifCond .ne 5, 3) := by decide +kernel
theorem dX3_work_37 : decode cX3_work 37 = .ok (.iconst (-1), 1) := by decide +kernel
theorem dX3_work_38 : decode cX3_work 38 = .ok (.ireturn, 1) := by decide +kernel
theorem dX3_work_39 : decode cX3_work 39 = .ok (.aload_n 0, 1) := by decide +kernel
theorem dX3_work_40 : decode cX3_work 40 = .ok (.getfield 24, 3) := by decide +kernel
theorem dX3_work_43 : decode cX3_work 43 = .ok (.aload_n 0, 1) := by decide +kernel
theorem dX3_work_44 : decode cX3_work 44 = .ok (.getfield 53, 3) := by decide +kernel
theorem dX3_work_47 : decode cX3_work 47 = .ok (.aaload, 1) := by decide +kernel
theorem dX3_work_48 : decode cX3_work 48 = .ok (.iload_n 1, 1) := by decide +kernel
theorem dX3_work_49 : decode cX3_work 49 = .ok (.putfield 56, 3) := by decide +kernel
theorem dX3_work_52 : decode cX3_work 52 = .ok (.aload_n 0, 1) := by decide +kernel
theorem dX3_work_53 : decode cX3_work 53 = .ok (.getfield 24, 3) := by decide +kernel
theorem dX3_work_56 : decode cX3_work 56 = .ok (.aload_n 0, 1) := by decide +kernel
theorem dX3_work_57 : decode cX3_work 57 = .ok (.getfield 53, 3) := by decide +kernel
theorem dX3_work_60 : decode cX3_work 60 = .ok (.aaload, 1) := by decide +kernel
theorem dX3_work_61 : decode cX3_work 61 = .ok (.iload_n 2, 1) := by decide +kernel
theorem dX3_work_62 : decode cX3_work 62 = .ok (.putfield 59, 3) := by decide +kernel
theorem dX3_work_65 : decode cX3_work 65 = .ok (.aload_n 0, 1) := by decide +kernel
theorem dX3_work_66 : decode cX3_work 66 = .ok (.dup, 1) := by decide +kernel
theorem dX3_work_67 : decode cX3_work 67 = .ok (.getfield 53, 3) := by decide +kernel
theorem dX3_work_70 : decode cX3_work 70 = .ok (.iconst 1, 1) := by decide +kernel
theorem dX3_work_71 : decode cX3_work 71 = .ok (.iadd, 1) := by decide +kernel
theorem dX3_work_72 : decode cX3_work 72 = .ok (.putfield 53, 3) := by decide +kernel
theorem dX3_work_75 : decode cX3_work 75 = .ok (.aload_n 0, 1) := by decide +kernel
theorem dX3_work_76 : decode cX3_work 76 = .ok (.getfield 53, 3) := by decide +kernel
theorem dX3_work_79 : decode cX3_work 79 = .ok (.iconst 1, 1) := by decide +kernel
theorem dX3_work_80 : decode cX3_work 80 = .ok (.isub, 1) := by decide +kernel
theorem dX3_work_81 : decode cX3_work 81 = .ok (.ireturn, 1) := by decide +kernel
set_option maxRecDepth 20000 in
theorem ggX3_near_X3_isWork : GoodIn wsX3_near wsX3_isWork := goodIn_r _ [6, 7, 12, 13, 14, 15, 16, 17, 18, 19] (by decide +kernel) (by decide +kernel)
set_option maxRecDepth 20000 in
theorem gX3_near_X3_isWork : GoodIn wsX3_near (wsV RX3 62 RX3 yX3_isWork wsX3_isWork) := goodIn_app (goodIn_of _ (by decide +kernel)) ggX3_near_X3_isWork
set_option maxRecDepth 20000 in
theorem ggX3_near_X3_withBit : GoodIn wsX3_near wsX3_withBit := goodIn_r _ [10, 11] (by decide +kernel) (by decide +kernel)
set_option maxRecDepth 20000 in
theorem gX3_near_X3_withBit : GoodIn wsX3_near (va_wsS RX3 69 yX3_withBit wsX3_withBit) := goodIn_app (goodIn_of _ (by decide +kernel)) ggX3_near_X3_withBit
theorem dX3_near_0 : decode cX3_near 0 = .ok (.aload_n 0, 1) := by decide +kernel
theorem dX3_near_1 : decode cX3_near 1 = .ok (.iload_n 1, 1) := by decide +kernel
theorem dX3_near_2 : decode cX3_near 2 = .ok (.invokevirtual 62, 3) := by decide +kernel
theorem dX3_near_5 : decode cX3_near 5 = .ok (.ifCond .eq 16, 3) := by decide +kernel
theorem dX3_near_8 : decode cX3_near 8 = .ok (.aload_n 0, 1) := by decide +kernel
theorem dX3_near_9 : decode cX3_near 9 = .ok (.iload_n 2, 1) := by decide +kernel
theorem dX3_near_10 : decode cX3_near 10 = .ok (.invokevirtual 62, 3) := by decide +kernel
theorem dX3_near_13 : decode cX3_near 13 = .ok (.ifCond .eq 8, 3) := by decide +kernel
theorem dX3_near_16 : decode cX3_near 16 = .ok (.iload_n 1, 1) := by decide +kernel
theorem dX3_near_17 : decode cX3_near 17 = .ok (.iload_n 2, 1) := by decide +kernel
theorem dX3_near_18 : decode cX3_near 18 = .ok (.if_icmp .ne 5, 3) := by decide +kernel
theorem dX3_near_21 : decode cX3_near 21 = .ok (.iconst 0, 1) := by decide +kernel
theorem dX3_near_22 : decode cX3_near 22 = .ok (.ireturn, 1) := by decide +kernel
theorem dX3_near_23 : decode cX3_near 23 = .ok (.aload_n 0, 1) := by decide +kernel
theorem dX3_near_24 : decode cX3_near 24 = .ok (.getfield 24, 3) := by decide +kernel
theorem dX3_near_27 : decode cX3_near 27 = .ok (.iload_n 1, 1) := by decide +kernel
theorem dX3_near_28 : decode cX3_near 28 = .ok (.aaload, 1) := by decide +kernel
theorem dX3_near_29 : decode cX3_near 29 = .ok (.aload_n 0, 1) := by decide +kernel
theorem dX3_near_30 : decode cX3_near 30 = .ok (.getfield 24, 3) := by decide +kernel
theorem dX3_near_33 : decode cX3_near 33 = .ok (.iload_n 1, 1) := by decide +kernel
theorem dX3_near_34 : decode cX3_near 34 = .ok (.aaload, 1) := by decide +kernel
theorem dX3_near_35 : decode cX3_near 35 = .ok (.getfield 66, 3) := by decide +kernel
theorem dX3_near_38 : decode cX3_near 38 = .ok (.i2l, 1) := by decide +kernel
theorem dX3_near_39 : decode cX3_near 39 = .ok (.iload_n 2, 1) := by decide +kernel
theorem dX3_near_40 : decode cX3_near 40 = .ok (.iload_n 3, 1) := by decide +kernel
theorem dX3_near_41 : decode cX3_near 41 = .ok (.invokestatic 69, 3) := by decide +kernel
theorem dX3_near_44 : decode cX3_near 44 = .ok (.l2i, 1) := by decide +kernel
theorem dX3_near_45 : decode cX3_near 45 = .ok (.putfield 66, 3) := by decide +kernel
theorem dX3_near_48 : decode cX3_near 48 = .ok (.aload_n 0, 1) := by decide +kernel
theorem dX3_near_49 : decode cX3_near 49 = .ok (.getfield 24, 3) := by decide +kernel
theorem dX3_near_52 : decode cX3_near 52 = .ok (.iload_n 2, 1) := by decide +kernel
theorem dX3_near_53 : decode cX3_near 53 = .ok (.aaload, 1) := by decide +kernel
theorem dX3_near_54 : decode cX3_near 54 = .ok (.aload_n 0, 1) := by decide +kernel
theorem dX3_near_55 : decode cX3_near 55 = .ok (.getfield 24, 3) := by decide +kernel
theorem dX3_near_58 : decode cX3_near 58 = .ok (.iload_n 2, 1) := by decide +kernel
theorem dX3_near_59 : decode cX3_near 59 = .ok (.aaload, 1) := by decide +kernel
theorem dX3_near_60 : decode cX3_near 60 = .ok (.getfield 66, 3) := by decide +kernel
theorem dX3_near_63 : decode cX3_near 63 = .ok (.i2l, 1) := by decide +kernel
theorem dX3_near_64 : decode cX3_near 64 = .ok (.iload_n 1, 1) := by decide +kernel
theorem dX3_near_65 : decode cX3_near 65 = .ok (.iload_n 3, 1) := by decide +kernel
theorem dX3_near_66 : decode cX3_near 66 = .ok (.invokestatic 69, 3) := by decide +kernel
theorem dX3_near_69 : decode cX3_near 69 = .ok (.l2i, 1) := by decide +kernel
theorem dX3_near_70 : decode cX3_near 70 = .ok (.putfield 66, 3) := by decide +kernel
theorem dX3_near_73 : decode cX3_near 73 = .ok (.iconst 1, 1) := by decide +kernel
theorem dX3_near_74 : decode cX3_near 74 = .ok (.ireturn, 1) := by decide +kernel
set_option maxRecDepth 20000 in
theorem ggX3_delay_X3_isWork : GoodIn wsX3_delay wsX3_isWork := goodIn_r _ [7, 8, 17, 18, 19, 20, 21, 22, 23, 24] (by decide +kernel) (by decide +kernel)
set_option maxRecDepth 20000 in
theorem gX3_delay_X3_isWork : GoodIn wsX3_delay (wsV RX3 62 RX3 yX3_isWork wsX3_isWork) := goodIn_app (goodIn_of _ (by decide +kernel)) ggX3_delay_X3_isWork
set_option maxRecDepth 20000 in
theorem ggX3_delay_X3_isHour : GoodIn wsX3_delay wsX3_isHour := goodIn_r _ [12, 13, 17, 18, 19, 20, 21, 22, 23, 24] (by decide +kernel) (by decide +kernel)
set_option maxRecDepth 20000 in
theorem gX3_delay_X3_isHour : GoodIn wsX3_delay (wsV RX3 73 RX3 yX3_isHour wsX3_isHour) := goodIn_app (goodIn_of _ (by decide +kernel)) ggX3_delay_X3_isHour
set_option maxRecDepth 20000 in
theorem ggX3_delay_X3_isWithin : GoodIn wsX3_delay wsX3_isWithin := goodIn_r _ [16] (by decide +kernel) (by decide +kernel)
set_option maxRecDepth 20000 in
theorem gX3_delay_X3_isWithin : GoodIn wsX3_delay (va_wsS RX3 49 yX3_isWithin wsX3_isWithin) := goodIn_app (goodIn_of _ (by decide +kernel)) ggX3_delay_X3_isWithin
theorem dX3_delay_0 : decode cX3_delay 0 = .ok (.aload_n 0, 1) := by decide +kernel
theorem dX3_delay_1 : decode cX3_delay 1 = .ok (.iload_n 1, 1) := by decide +kernel
theorem dX3_delay_2 : decode cX3_delay 2 = .ok (.invokevirtual 62, 3) := by decide +kernel
theorem dX3_delay_5 : decode cX3_delay 5 = .ok (.ifCond .eq 21, 3) := by decide +kernel
theorem dX3_delay_8 : decode cX3_delay 8 = .ok (.aload_n 0, 1) := by decide +kernel
theorem dX3_delay_9 : decode cX3_delay 9 = .ok (.iload_n 2, 1) := by decide +kernel
theorem dX3_delay_10 : decode cX3_delay 10 = .ok (.invokevirtual 73, 3) := by decide +kernel
theorem dX3_delay_13 : decode cX3_delay 13 = .ok (.ifCond .eq 13, 3) := by decide +kernel
theorem dX3_delay_16 : decode cX3_delay 16 = .ok (.iload_n 3, 1) := by decide +kernel
theorem dX3_delay_17 : decode cX3_delay 17 = .ok (.iconst 0, 1) := by decide +kernel
theorem dX3_delay_18 : decode cX3_delay 18 = .ok (.ldc 76, 2) := by decide +kernel
theorem dX3_delay_20 : decode cX3_delay 20 = .ok (.invokestatic 49, 3) := by decide +kernel
theorem dX3_delay_23 : decode cX3_delay 23 = .ok (.ifCond .ne 5, 3) := by decide +kernel
theorem dX3_delay_26 : decode cX3_delay 26 = .ok (.iconst 0, 1) := by decide +kernel
theorem dX3_delay_27 : decode cX3_delay 27 = .ok (.ireturn, 1) := by decide +kernel
theorem dX3_delay_28 : decode cX3_delay 28 = .ok (.aload_n 0, 1) := by decide +kernel
theorem dX3_delay_29 : decode cX3_delay 29 = .ok (.getfield 24, 3) := by decide +kernel
theorem dX3_delay_32 : decode cX3_delay 32 = .ok (.iload_n 1, 1) := by decide +kernel
theorem dX3_delay_33 : decode cX3_delay 33 = .ok (.aaload, 1) := by decide +kernel
theorem dX3_delay_34 : decode cX3_delay 34 = .ok (.getfield 77, 3) := by decide +kernel
theorem dX3_delay_37 : decode cX3_delay 37 = .ok (.iload_n 2, 1) := by decide +kernel
theorem dX3_delay_38 : decode cX3_delay 38 = .ok (.iload_n 3, 1) := by decide +kernel
theorem dX3_delay_39 : decode cX3_delay 39 = .ok (.iastore, 1) := by decide +kernel
theorem dX3_delay_40 : decode cX3_delay 40 = .ok (.iconst 1, 1) := by decide +kernel
theorem dX3_delay_41 : decode cX3_delay 41 = .ok (.ireturn, 1) := by decide +kernel
set_option maxRecDepth 20000 in
theorem ggX3_night_X3_isWork : GoodIn wsX3_night wsX3_isWork := goodIn_r _ [6, 7, 8, 9, 10, 11, 12, 13, 14, 15] (by decide +kernel) (by decide +kernel)
set_option maxRecDepth 20000 in
theorem gX3_night_X3_isWork : GoodIn wsX3_night (wsV RX3 62 RX3 yX3_isWork wsX3_isWork) := goodIn_app (goodIn_of _ (by decide +kernel)) ggX3_night_X3_isWork
theorem dX3_night_0 : decode cX3_night 0 = .ok (.aload_n 0, 1) := by decide +kernel
theorem dX3_night_1 : decode cX3_night 1 = .ok (.iload_n 1, 1) := by decide +kernel
theorem dX3_night_2 : decode cX3_night 2 = .ok (.invokevirtual 62, 3) := by decide +kernel
theorem dX3_night_5 : decode cX3_night 5 = .ok (.ifCond .ne 5, 3) := by decide +kernel
theorem dX3_night_8 : decode cX3_night 8 = .ok (.iconst 0, 1) := by decide +kernel
theorem dX3_night_9 : decode cX3_night 9 = .ok (.ireturn, 1) := by decide +kernel
theorem dX3_night_10 : decode cX3_night 10 = .ok (.aload_n 0, 1) := by decide +kernel
theorem dX3_night_11 : decode cX3_night 11 = .ok (.getfield 24, 3) := by decide +kernel
theorem dX3_night_14 : decode cX3_night 14 = .ok (.iload_n 1, 1) := by decide +kernel
theorem dX3_night_15 : decode cX3_night 15 = .ok (.aaload, 1) := by decide +kernel
theorem dX3_night_16 : decode cX3_night 16 = .ok (.iload_n 2, 1) := by decide +kernel
theorem dX3_night_17 : decode cX3_night 17 = .ok (.putfield 80, 3) := by decide +kernel
theorem dX3_night_20 : decode cX3_night 20 = .ok (.iconst 1, 1) := by decide +kernel
theorem dX3_night_21 : decode cX3_night 21 = .ok (.ireturn, 1) := by decide +kernel
set_option maxRecDepth 20000 in
theorem ggX3_event_X3_isWork : GoodIn wsX3_event wsX3_isWork := goodIn_r _ [6, 7, 17, 18, 19, 20, 21, 22, 23, 24] (by decide +kernel) (by decide +kernel)
set_option maxRecDepth 20000 in
theorem gX3_event_X3_isWork : GoodIn wsX3_event (wsV RX3 62 RX3 yX3_isWork wsX3_isWork) := goodIn_app (goodIn_of _ (by decide +kernel)) ggX3_event_X3_isWork
set_option maxRecDepth 20000 in
theorem ggX3_event_X3_isHour : GoodIn wsX3_event wsX3_isHour := goodIn_r _ [11, 12, 17, 18, 19, 20, 21, 22, 23, 24] (by decide +kernel) (by decide +kernel)
set_option maxRecDepth 20000 in
theorem gX3_event_X3_isHour : GoodIn wsX3_event (wsV RX3 73 RX3 yX3_isHour wsX3_isHour) := goodIn_app (goodIn_of _ (by decide +kernel)) ggX3_event_X3_isHour
set_option maxRecDepth 20000 in
theorem ggX3_event_X3_withBit : GoodIn wsX3_event wsX3_withBit := goodIn_r _ [15, 16] (by decide +kernel) (by decide +kernel)
set_option maxRecDepth 20000 in
theorem gX3_event_X3_withBit : GoodIn wsX3_event (va_wsS RX3 69 yX3_withBit wsX3_withBit) := goodIn_app (goodIn_of _ (by decide +kernel)) ggX3_event_X3_withBit
theorem dX3_event_0 : decode cX3_event 0 = .ok (.aload_n 0, 1) := by decide +kernel
theorem dX3_event_1 : decode cX3_event 1 = .ok (.iload_n 1, 1) := by decide +kernel
theorem dX3_event_2 : decode cX3_event 2 = .ok (.invokevirtual 62, 3) := by decide +kernel
theorem dX3_event_5 : decode cX3_event 5 = .ok (.ifCond .eq 11, 3) := by decide +kernel
theorem dX3_event_8 : decode cX3_event 8 = .ok (.aload_n 0, 1) := by decide +kernel
theorem dX3_event_9 : decode cX3_event 9 = .ok (.iload_n 2, 1) := by decide +kernel
theorem dX3_event_10 : decode cX3_event 10 = .ok (.invokevirtual 73, 3) := by decide +kernel
theorem dX3_event_13 : decode cX3_event 13 = .ok (.ifCond .ne 5, 3) := by decide +kernel
theorem dX3_event_16 : decode cX3_event 16 = .ok (.iconst 0, 1) := by decide +kernel
theorem dX3_event_17 : decode cX3_event 17 = .ok (.ireturn, 1) := by decide +kernel
theorem dX3_event_18 : decode cX3_event 18 = .ok (.aload_n 0, 1) := by decide +kernel
theorem dX3_event_19 : decode cX3_event 19 = .ok (.getfield 24, 3) := by decide +kernel
theorem dX3_event_22 : decode cX3_event 22 = .ok (.iload_n 1, 1) := by decide +kernel
theorem dX3_event_23 : decode cX3_event 23 = .ok (.aaload, 1) := by decide +kernel
theorem dX3_event_24 : decode cX3_event 24 = .ok (.aload_n 0, 1) := by decide +kernel
theorem dX3_event_25 : decode cX3_event 25 = .ok (.getfield 24, 3) := by decide +kernel
theorem dX3_event_28 : decode cX3_event 28 = .ok (.iload_n 1, 1) := by decide +kernel
theorem dX3_event_29 : decode cX3_event 29 = .ok (.aaload, 1) := by decide +kernel
theorem dX3_event_30 : decode cX3_event 30 = .ok (.getfield 84, 3) := by decide +kernel
theorem dX3_event_33 : decode cX3_event 33 = .ok (.iload_n 2, 1) := by decide +kernel
theorem dX3_event_34 : decode cX3_event 34 = .ok (.iload_n 3, 1) := by decide +kernel
theorem dX3_event_35 : decode cX3_event 35 = .ok (.invokestatic 69, 3) := by decide +kernel
theorem dX3_event_38 : decode cX3_event 38 = .ok (.putfield 84, 3) := by decide +kernel
theorem dX3_event_41 : decode cX3_event 41 = .ok (.iconst 1, 1) := by decide +kernel
theorem dX3_event_42 : decode cX3_event 42 = .ok (.ireturn, 1) := by decide +kernel
set_option maxRecDepth 20000 in
theorem ggX3_noise_X3_isWork : GoodIn wsX3_noise wsX3_isWork := goodIn_r _ [6, 7, 16, 17, 18, 19, 20, 21, 22, 23] (by decide +kernel) (by decide +kernel)
set_option maxRecDepth 20000 in
theorem gX3_noise_X3_isWork : GoodIn wsX3_noise (wsV RX3 62 RX3 yX3_isWork wsX3_isWork) := goodIn_app (goodIn_of _ (by decide +kernel)) ggX3_noise_X3_isWork
set_option maxRecDepth 20000 in
theorem ggX3_noise_X3_isHour : GoodIn wsX3_noise wsX3_isHour := goodIn_r _ [11, 12, 16, 17, 18, 19, 20, 21, 22, 23] (by decide +kernel) (by decide +kernel)
set_option maxRecDepth 20000 in
theorem gX3_noise_X3_isHour : GoodIn wsX3_noise (wsV RX3 73 RX3 yX3_isHour wsX3_isHour) := goodIn_app (goodIn_of _ (by decide +kernel)) ggX3_noise_X3_isHour
set_option maxRecDepth 20000 in
theorem ggX3_noise_X3_bitsFrom : GoodIn wsX3_noise wsX3_bitsFrom := goodIn_r _ [15] (by decide +kernel) (by decide +kernel)
set_option maxRecDepth 20000 in
theorem gX3_noise_X3_bitsFrom : GoodIn wsX3_noise (va_wsS RX3 88 yX3_bitsFrom wsX3_bitsFrom) := goodIn_app (goodIn_of _ (by decide +kernel)) ggX3_noise_X3_bitsFrom
theorem dX3_noise_0 : decode cX3_noise 0 = .ok (.aload_n 0, 1) := by decide +kernel
theorem dX3_noise_1 : decode cX3_noise 1 = .ok (.iload_n 1, 1) := by decide +kernel
theorem dX3_noise_2 : decode cX3_noise 2 = .ok (.invokevirtual 62, 3) := by decide +kernel
theorem dX3_noise_5 : decode cX3_noise 5 = .ok (.ifCond .eq 19, 3) := by decide +kernel
theorem dX3_noise_8 : decode cX3_noise 8 = .ok (.aload_n 0, 1) := by decide +kernel
theorem dX3_noise_9 : decode cX3_noise 9 = .ok (.iload_n 2, 1) := by decide +kernel
theorem dX3_noise_10 : decode cX3_noise 10 = .ok (.invokevirtual 73, 3) := by decide +kernel
theorem dX3_noise_13 : decode cX3_noise 13 = .ok (.ifCond .eq 11, 3) := by decide +kernel
theorem dX3_noise_16 : decode cX3_noise 16 = .ok (.aload_n 0, 1) := by decide +kernel
theorem dX3_noise_17 : decode cX3_noise 17 = .ok (.iload_n 3, 1) := by decide +kernel
theorem dX3_noise_18 : decode cX3_noise 18 = .ok (.invokevirtual 73, 3) := by decide +kernel
theorem dX3_noise_21 : decode cX3_noise 21 = .ok (.ifCond .ne 5, 3) := by decide +kernel
theorem dX3_noise_24 : decode cX3_noise 24 = .ok (.iconst 0, 1) := by decide +kernel
theorem dX3_noise_25 : decode cX3_noise 25 = .ok (.ireturn, 1) := by decide +kernel
theorem dX3_noise_26 : decode cX3_noise 26 = .ok (.aload_n 0, 1) := by decide +kernel
theorem dX3_noise_27 : decode cX3_noise 27 = .ok (.getfield 24, 3) := by decide +kernel
theorem dX3_noise_30 : decode cX3_noise 30 = .ok (.iload_n 1, 1) := by decide +kernel
theorem dX3_noise_31 : decode cX3_noise 31 = .ok (.aaload, 1) := by decide +kernel
theorem dX3_noise_32 : decode cX3_noise 32 = .ok (.iload_n 2, 1) := by decide +kernel
theorem dX3_noise_33 : decode cX3_noise 33 = .ok (.iload_n 3, 1) := by decide +kernel
theorem dX3_noise_34 : decode cX3_noise 34 = .ok (.if_icmp .le 7, 3) := by decide +kernel
theorem dX3_noise_37 : decode cX3_noise 37 = .ok (.lconst 0, 1) := by decide +kernel
theorem dX3_noise_38 : decode cX3_noise 38 = .ok (.goto 12, 3) := by decide +kernel
theorem dX3_noise_41 : decode cX3_noise 41 = .ok (.iload_n 2, 1) := by decide +kernel
theorem dX3_noise_42 : decode cX3_noise 42 = .ok (.iload_n 3, 1) := by decide +kernel
theorem dX3_noise_43 : decode cX3_noise 43 = .ok (.iload_n 2, 1) := by decide +kernel
theorem dX3_noise_44 : decode cX3_noise 44 = .ok (.isub, 1) := by decide +kernel
theorem dX3_noise_45 : decode cX3_noise 45 = .ok (.iconst 1, 1) := by decide +kernel
theorem dX3_noise_46 : decode cX3_noise 46 = .ok (.iadd, 1) := by decide +kernel
theorem dX3_noise_47 : decode cX3_noise 47 = .ok (.invokestatic 88, 3) := by decide +kernel
theorem dX3_noise_50 : decode cX3_noise 50 = .ok (.putfield 92, 3) := by decide +kernel
theorem dX3_noise_53 : decode cX3_noise 53 = .ok (.iconst 1, 1) := by decide +kernel
theorem dX3_noise_54 : decode cX3_noise 54 = .ok (.ireturn, 1) := by decide +kernel
set_option maxRecDepth 20000 in
theorem ggX3_crew_X3_isWork : GoodIn wsX3_crew wsX3_isWork := goodIn_r _ [6, 7, 11, 12, 13, 14, 15, 16, 17, 18] (by decide +kernel) (by decide +kernel)
set_option maxRecDepth 20000 in
theorem gX3_crew_X3_isWork : GoodIn wsX3_crew (wsV RX3 62 RX3 yX3_isWork wsX3_isWork) := goodIn_app (goodIn_of _ (by decide +kernel)) ggX3_crew_X3_isWork
set_option maxRecDepth 20000 in
theorem ggX3_crew_X3_isCrew : GoodIn wsX3_crew wsX3_isCrew := goodIn_r _ [10] (by decide +kernel) (by decide +kernel)
set_option maxRecDepth 20000 in
theorem gX3_crew_X3_isCrew : GoodIn wsX3_crew (va_wsS RX3 95 yX3_isCrew wsX3_isCrew) := goodIn_app (goodIn_of _ (by decide +kernel)) ggX3_crew_X3_isCrew
theorem dX3_crew_0 : decode cX3_crew 0 = .ok (.aload_n 0, 1) := by decide +kernel
theorem dX3_crew_1 : decode cX3_crew 1 = .ok (.iload_n 1, 1) := by decide +kernel
theorem dX3_crew_2 : decode cX3_crew 2 = .ok (.invokevirtual 62, 3) := by decide +kernel
theorem dX3_crew_5 : decode cX3_crew 5 = .ok (.ifCond .eq 10, 3) := by decide +kernel
theorem dX3_crew_8 : decode cX3_crew 8 = .ok (.iload_n 2, 1) := by decide +kernel
theorem dX3_crew_9 : decode cX3_crew 9 = .ok (.invokestatic 95, 3) := by decide +kernel
theorem dX3_crew_12 : decode cX3_crew 12 = .ok (.ifCond .ne 5, 3) := by decide +kernel
theorem dX3_crew_15 : decode cX3_crew 15 = .ok (.iconst 0, 1) := by decide +kernel
theorem dX3_crew_16 : decode cX3_crew 16 = .ok (.ireturn, 1) := by decide +kernel
theorem dX3_crew_17 : decode cX3_crew 17 = .ok (.aload_n 0, 1) := by decide +kernel
theorem dX3_crew_18 : decode cX3_crew 18 = .ok (.getfield 24, 3) := by decide +kernel
theorem dX3_crew_21 : decode cX3_crew 21 = .ok (.iload_n 1, 1) := by decide +kernel
theorem dX3_crew_22 : decode cX3_crew 22 = .ok (.aaload, 1) := by decide +kernel
theorem dX3_crew_23 : decode cX3_crew 23 = .ok (.iload_n 2, 1) := by decide +kernel
theorem dX3_crew_24 : decode cX3_crew 24 = .ok (.putfield 98, 3) := by decide +kernel
theorem dX3_crew_27 : decode cX3_crew 27 = .ok (.iconst 1, 1) := by decide +kernel
theorem dX3_crew_28 : decode cX3_crew 28 = .ok (.ireturn, 1) := by decide +kernel
set_option maxRecDepth 20000 in
theorem ggX3_rest_X3_isCrew : GoodIn wsX3_rest wsX3_isCrew := goodIn_r _ [5] (by decide +kernel) (by decide +kernel)
set_option maxRecDepth 20000 in
theorem gX3_rest_X3_isCrew : GoodIn wsX3_rest (va_wsS RX3 95 yX3_isCrew wsX3_isCrew) := goodIn_app (goodIn_of _ (by decide +kernel)) ggX3_rest_X3_isCrew
set_option maxRecDepth 20000 in
theorem ggX3_rest_X3_isWithin : GoodIn wsX3_rest wsX3_isWithin := goodIn_r _ [8] (by decide +kernel) (by decide +kernel)
set_option maxRecDepth 20000 in
theorem gX3_rest_X3_isWithin : GoodIn wsX3_rest (va_wsS RX3 49 yX3_isWithin wsX3_isWithin) := goodIn_app (goodIn_of _ (by decide +kernel)) ggX3_rest_X3_isWithin
theorem dX3_rest_0 : decode cX3_rest 0 = .ok (.iload_n 1, 1) := by decide +kernel
theorem dX3_rest_1 : decode cX3_rest 1 = .ok (.invokestatic 95, 3) := by decide +kernel
theorem dX3_rest_4 : decode cX3_rest 4 = .ok (.ifCond .eq 13, 3) := by decide +kernel
theorem dX3_rest_7 : decode cX3_rest 7 = .ok (.iload_n 2, 1) := by decide +kernel
theorem dX3_rest_8 : decode cX3_rest 8 = .ok (.iconst 0, 1) := by decide +kernel
theorem dX3_rest_9 : decode cX3_rest 9 = .ok (.bipush 36, 2) := by decide +kernel
theorem dX3_rest_11 : decode cX3_rest 11 = .ok (.invokestatic 49, 3) := by decide +kernel
theorem dX3_rest_14 : decode cX3_rest 14 = .ok (.ifCond .ne 5, 3) := by decide +kernel
theorem dX3_rest_17 : decode cX3_rest 17 = .ok (.iconst 0, 1) := by decide +kernel
theorem dX3_rest_18 : decode cX3_rest 18 = .ok (.ireturn, 1) := by decide +kernel
theorem dX3_rest_19 : decode cX3_rest 19 = .ok (.aload_n 0, 1) := by decide +kernel
theorem dX3_rest_20 : decode cX3_rest 20 = .ok (.getfield 31, 3) := by decide +kernel
theorem dX3_rest_23 : decode cX3_rest 23 = .ok (.iload_n 1, 1) := by decide +kernel
theorem dX3_rest_24 : decode cX3_rest 24 = .ok (.iload_n 2, 1) := by decide +kernel
theorem dX3_rest_25 : decode cX3_rest 25 = .ok (.iastore, 1) := by decide +kernel
theorem dX3_rest_26 : decode cX3_rest 26 = .ok (.iconst 1, 1) := by decide +kernel
theorem dX3_rest_27 : decode cX3_rest 27 = .ok (.ireturn, 1) := by decide +kernel
set_option maxRecDepth 20000 in
theorem ggX3_run_X3_isWork : GoodIn wsX3_run wsX3_isWork := goodIn_r _ [12, 13, 86, 87, 88, 89, 90, 91, 92, 93] (by decide +kernel) (by decide +kernel)
set_option maxRecDepth 20000 in
theorem gX3_run_X3_isWork : GoodIn wsX3_run (wsV RX3 62 RX3 yX3_isWork wsX3_isWork) := goodIn_app (goodIn_of _ (by decide +kernel)) ggX3_run_X3_isWork
set_option maxRecDepth 20000 in
theorem ggX3_run_X2_isFixed : GoodIn wsX3_run wsX2_isFixed := goodIn_r _ [17, 18, 94, 95, 96, 97, 98, 99, 100, 101, 102, 103] (by decide +kernel) (by decide +kernel)
set_option maxRecDepth 20000 in
theorem gX3_run_X2_isFixed_n101 : GoodIn wsX3_run (wsX2_isFixed) := ggX3_run_X2_isFixed
set_option maxRecDepth 20000 in
theorem ggX3_run_X3_firstBrokenRule : GoodIn wsX3_run wsX3_firstBrokenRule := goodIn_r _ [22, 1, 2, 23, 15, 24, 25, 26, 27, 28, 29, 30, 31, 32, 33, 34, 35, 36, 37, 38, 39, 40, 11, 41, 42, 43, 44, 45, 13, 46, 47, 48, 49, 50, 51, 52, 53, 54, 55, 56, 57, 58, 59, 60, 86, 87, 88, 89, 90, 91, 92, 93, 94, 95, 96, 97, 98, 99, 100, 101, 102, 103] (by decide +kernel) (by decide +kernel)
set_option maxRecDepth 20000 in
theorem gX3_run_X3_firstBrokenRule : GoodIn wsX3_run (wsV RX3 105 RX3 yX3_firstBrokenRule wsX3_firstBrokenRule) := goodIn_app (goodIn_of _ (by decide +kernel)) ggX3_run_X3_firstBrokenRule
set_option maxRecDepth 20000 in
theorem ggX3_run_X2_delayFrom : GoodIn wsX3_run wsX2_delayFrom := goodIn_r _ [63, 64, 65, 5, 66, 67, 32, 33, 34, 15, 35, 29, 30, 94, 95, 96, 97, 98, 99, 100, 101, 102, 103] (by decide +kernel) (by decide +kernel)
set_option maxRecDepth 20000 in
theorem gX3_run_X2_delayFrom_n108 : GoodIn wsX3_run (wsX2_delayFrom) := ggX3_run_X2_delayFrom
set_option maxRecDepth 20000 in
theorem ggX3_run_X3_putAt : GoodIn wsX3_run wsX3_putAt := goodIn_r _ [71, 1, 7, 72, 73, 74, 11, 75, 76, 77, 78, 79, 80, 81, 82, 83, 84, 85, 65, 5, 66, 86, 87, 88, 89, 90, 91, 92, 93, 94, 95, 96, 97, 98, 99, 100, 101, 102, 103, 104, 105, 106] (by decide +kernel) (by decide +kernel)
set_option maxRecDepth 20000 in
theorem gX3_run_X3_putAt : GoodIn wsX3_run (wsV RX3 115 RX3 yX3_putAt wsX3_putAt) := goodIn_app (goodIn_of _ (by decide +kernel)) ggX3_run_X3_putAt
theorem dX3_run_0 : decode cX3_run 0 = .ok (.aload_n 0, 1) := by decide +kernel
theorem dX3_run_1 : decode cX3_run 1 = .ok (.iload_n 1, 1) := by decide +kernel
theorem dX3_run_2 : decode cX3_run 2 = .ok (.invokevirtual 62, 3) := by decide +kernel
theorem dX3_run_5 : decode cX3_run 5 = .ok (.ifCond .eq 15, 3) := by decide +kernel
theorem dX3_run_8 : decode cX3_run 8 = .ok (.aload_n 0, 1) := by decide +kernel
theorem dX3_run_9 : decode cX3_run 9 = .ok (.getfield 24, 3) := by decide +kernel
theorem dX3_run_12 : decode cX3_run 12 = .ok (.iload_n 1, 1) := by decide +kernel
theorem dX3_run_13 : decode cX3_run 13 = .ok (.aaload, 1) := by decide +kernel
theorem dX3_run_14 : decode cX3_run 14 = .ok (.invokevirtual 101, 3) := by decide +kernel
theorem dX3_run_17 : decode cX3_run 17 = .ok (.ifCond .eq 6, 3) := by decide +kernel
theorem dX3_run_20 : decode cX3_run 20 = .ok (.bipush (-100), 2) := by decide +kernel
theorem dX3_run_22 : decode cX3_run 22 = .ok (.ireturn, 1) := by decide +kernel
theorem dX3_run_23 : decode cX3_run 23 = .ok (.iconst (-1), 1) := by decide +kernel
theorem dX3_run_24 : decode cX3_run 24 = .ok (.istore_n 2, 1) := by decide +kernel
theorem dX3_run_25 : decode cX3_run 25 = .ok (.iconst 0, 1) := by decide +kernel
theorem dX3_run_26 : decode cX3_run 26 = .ok (.istore_n 3, 1) := by decide +kernel
theorem dX3_run_27 : decode cX3_run 27 = .ok (.iconst 0, 1) := by decide +kernel
theorem dX3_run_28 : decode cX3_run 28 = .ok (.istore 4, 2) := by decide +kernel
theorem dX3_run_30 : decode cX3_run 30 = .ok (.iconst 0, 1) := by decide +kernel
theorem dX3_run_31 : decode cX3_run 31 = .ok (.istore 5, 2) := by decide +kernel
theorem dX3_run_33 : decode cX3_run 33 = .ok (.iload 5, 2) := by decide +kernel
theorem dX3_run_35 : decode cX3_run 35 = .ok (.aload_n 0, 1) := by decide +kernel
