theorem dX1_init_0 : decode cX1_init 0 = .ok (.aload_n 0, 1) := by decide +kernel
theorem dX1_init_1 : decode cX1_init 1 = .ok (.invokespecial 1, 3) := by decide +kernel
theorem dX1_init_4 : decode cX1_init 4 = .ok (.aload_n 0, 1) := by decide +kernel
theorem dX1_init_5 : decode cX1_init 5 = .ok (.bipush 96, 2) := by decide +kernel
theorem dX1_init_7 : decode cX1_init 7 = .ok (.newarray .int, 2) := by decide +kernel
theorem dX1_init_9 : decode cX1_init 9 = .ok (.putfield 7, 3) := by decide +kernel
theorem dX1_init_12 : decode cX1_init 12 = .ok (.aload_n 0, 1) := by decide +kernel
theorem dX1_init_13 : decode cX1_init 13 = .ok (.bipush 8, 2) := by decide +kernel
theorem dX1_init_15 : decode cX1_init 15 = .ok (.newarray .int, 2) := by decide +kernel
theorem dX1_init_17 : decode cX1_init 17 = .ok (.putfield 13, 3) := by decide +kernel
theorem dX1_init_20 : decode cX1_init 20 = .ok (.aload_n 0, 1) := by decide +kernel
theorem dX1_init_21 : decode cX1_init 21 = .ok (.iconst 4, 1) := by decide +kernel
theorem dX1_init_22 : decode cX1_init 22 = .ok (.newarray .boolean, 2) := by decide +kernel
theorem dX1_init_24 : decode cX1_init 24 = .ok (.putfield 16, 3) := by decide +kernel
theorem dX1_init_27 : decode cX1_init 27 = .ok (.aload_n 0, 1) := by decide +kernel
theorem dX1_init_28 : decode cX1_init 28 = .ok (.bipush 8, 2) := by decide +kernel
theorem dX1_init_30 : decode cX1_init 30 = .ok (.newarray .int, 2) := by decide +kernel
theorem dX1_init_32 : decode cX1_init 32 = .ok (.putfield 20, 3) := by decide +kernel
theorem dX1_init_35 : decode cX1_init 35 = .ok (.iconst 0, 1) := by decide +kernel
theorem dX1_init_36 : decode cX1_init 36 = .ok (.istore_n 1, 1) := by decide +kernel
theorem dX1_init_37 : decode cX1_init 37 = .ok (.iload_n 1, 1) := by decide +kernel
theorem dX1_init_38 : decode cX1_init 38 = .ok (.bipush 96, 2) := by decide +kernel
theorem dX1_init_40 : decode cX1_init 40 = .ok (.if_icmp .ge 17, 3) := by decide +kernel
theorem dX1_init_43 : decode cX1_init 43 = .ok (.aload_n 0, 1) := by decide +kernel
theorem dX1_init_44 : decode cX1_init 44 = .ok (.getfield 7, 3) := by decide +kernel
theorem dX1_init_47 : decode cX1_init 47 = .ok (.iload_n 1, 1) := by decide +kernel
theorem dX1_init_48 : decode cX1_init 48 = .ok (.ldc 23, 2) := by decide +kernel
theorem dX1_init_50 : decode cX1_init 50 = .ok (.iastore, 1) := by decide +kernel
theorem dX1_init_51 : decode cX1_init 51 = .ok (.iinc 1 1, 3) := by decide +kernel
theorem dX1_init_54 : decode cX1_init 54 = .ok (.goto (-17), 3) := by decide +kernel
theorem dX1_init_57 : decode cX1_init 57 = .ok (.iconst 0, 1) := by decide +kernel
theorem dX1_init_58 : decode cX1_init 58 = .ok (.istore_n 1, 1) := by decide +kernel
theorem dX1_init_59 : decode cX1_init 59 = .ok (.iload_n 1, 1) := by decide +kernel
theorem dX1_init_60 : decode cX1_init 60 = .ok (.bipush 8, 2) := by decide +kernel
theorem dX1_init_62 : decode cX1_init 62 = .ok (.if_icmp .ge 17, 3) := by decide +kernel
theorem dX1_init_65 : decode cX1_init 65 = .ok (.aload_n 0, 1) := by decide +kernel
theorem dX1_init_66 : decode cX1_init 66 = .ok (.getfield 13, 3) := by decide +kernel
theorem dX1_init_69 : decode cX1_init 69 = .ok (.iload_n 1, 1) := by decide +kernel
theorem dX1_init_70 : decode cX1_init 70 = .ok (.ldc 23, 2) := by decide +kernel
theorem dX1_init_72 : decode cX1_init 72 = .ok (.iastore, 1) := by decide +kernel
theorem dX1_init_73 : decode cX1_init 73 = .ok (.iinc 1 1, 3) := by decide +kernel
theorem dX1_init_76 : decode cX1_init 76 = .ok (.goto (-17), 3) := by decide +kernel
theorem dX1_init_79 : decode cX1_init 79 = .ok (.return_, 1) := by decide +kernel
theorem dX1_isTrue_0 : decode cX1_isTrue 0 = .ok (.iload_n 1, 1) := by decide +kernel
theorem dX1_isTrue_1 : decode cX1_isTrue 1 = .ok (.ldc 23, 2) := by decide +kernel
theorem dX1_isTrue_3 : decode cX1_isTrue 3 = .ok (.if_icmp .eq 9, 3) := by decide +kernel
theorem dX1_isTrue_6 : decode cX1_isTrue 6 = .ok (.iload_n 2, 1) := by decide +kernel
theorem dX1_isTrue_7 : decode cX1_isTrue 7 = .ok (.ldc 23, 2) := by decide +kernel
theorem dX1_isTrue_9 : decode cX1_isTrue 9 = .ok (.if_icmp .ne 14, 3) := by decide +kernel
theorem dX1_isTrue_12 : decode cX1_isTrue 12 = .ok (.iload_n 0, 1) := by decide +kernel
theorem dX1_isTrue_13 : decode cX1_isTrue 13 = .ok (.iconst 5, 1) := by decide +kernel
theorem dX1_isTrue_14 : decode cX1_isTrue 14 = .ok (.if_icmp .ne 7, 3) := by decide +kernel
theorem dX1_isTrue_17 : decode cX1_isTrue 17 = .ok (.iconst 1, 1) := by decide +kernel
theorem dX1_isTrue_18 : decode cX1_isTrue 18 = .ok (.goto 4, 3) := by decide +kernel
theorem dX1_isTrue_21 : decode cX1_isTrue 21 = .ok (.iconst 0, 1) := by decide +kernel
theorem dX1_isTrue_22 : decode cX1_isTrue 22 = .ok (.ireturn, 1) := by decide +kernel
theorem dX1_isTrue_23 : decode cX1_isTrue 23 = .ok (.iload_n 0, 1) := by decide +kernel
theorem dX1_isTrue_24 : decode cX1_isTrue 24 = .ok (.tableswitch 91 0 4 #[36, 47, 58, 69, 80], 36) := by decide +kernel
theorem dX1_isTrue_60 : decode cX1_isTrue 60 = .ok (.iload_n 1, 1) := by decide +kernel
theorem dX1_isTrue_61 : decode cX1_isTrue 61 = .ok (.iload_n 2, 1) := by decide +kernel
theorem dX1_isTrue_62 : decode cX1_isTrue 62 = .ok (.if_icmp .ge 7, 3) := by decide +kernel
theorem dX1_isTrue_65 : decode cX1_isTrue 65 = .ok (.iconst 1, 1) := by decide +kernel
theorem dX1_isTrue_66 : decode cX1_isTrue 66 = .ok (.goto 4, 3) := by decide +kernel
theorem dX1_isTrue_69 : decode cX1_isTrue 69 = .ok (.iconst 0, 1) := by decide +kernel
theorem dX1_isTrue_70 : decode cX1_isTrue 70 = .ok (.ireturn, 1) := by decide +kernel
theorem dX1_isTrue_71 : decode cX1_isTrue 71 = .ok (.iload_n 1, 1) := by decide +kernel
theorem dX1_isTrue_72 : decode cX1_isTrue 72 = .ok (.iload_n 2, 1) := by decide +kernel
theorem dX1_isTrue_73 : decode cX1_isTrue 73 = .ok (.if_icmp .gt 7, 3) := by decide +kernel
theorem dX1_isTrue_76 : decode cX1_isTrue 76 = .ok (.iconst 1, 1) := by decide +kernel
theorem dX1_isTrue_77 : decode cX1_isTrue 77 = .ok (.goto 4, 3) := by decide +kernel
theorem dX1_isTrue_80 : decode cX1_isTrue 80 = .ok (.iconst 0, 1) := by decide +kernel
theorem dX1_isTrue_81 : decode cX1_isTrue 81 = .ok (.ireturn, 1) := by decide +kernel
theorem dX1_isTrue_82 : decode cX1_isTrue 82 = .ok (.iload_n 1, 1) := by decide +kernel
theorem dX1_isTrue_83 : decode cX1_isTrue 83 = .ok (.iload_n 2, 1) := by decide +kernel
theorem dX1_isTrue_84 : decode cX1_isTrue 84 = .ok (.if_icmp .le 7, 3) := by decide +kernel
theorem dX1_isTrue_87 : decode cX1_isTrue 87 = .ok (.iconst 1, 1) := by decide +kernel
theorem dX1_isTrue_88 : decode cX1_isTrue 88 = .ok (.goto 4, 3) := by decide +kernel
theorem dX1_isTrue_91 : decode cX1_isTrue 91 = .ok (.iconst 0, 1) := by decide +kernel
theorem dX1_isTrue_92 : decode cX1_isTrue 92 = .ok (.ireturn, 1) := by decide +kernel
theorem dX1_isTrue_93 : decode cX1_isTrue 93 = .ok (.iload_n 1, 1) := by decide +kernel
theorem dX1_isTrue_94 : decode cX1_isTrue 94 = .ok (.iload_n 2, 1) := by decide +kernel
theorem dX1_isTrue_95 : decode cX1_isTrue 95 = .ok (.if_icmp .lt 7, 3) := by decide +kernel
theorem dX1_isTrue_98 : decode cX1_isTrue 98 = .ok (.iconst 1, 1) := by decide +kernel
theorem dX1_isTrue_99 : decode cX1_isTrue 99 = .ok (.goto 4, 3) := by decide +kernel
theorem dX1_isTrue_102 : decode cX1_isTrue 102 = .ok (.iconst 0, 1) := by decide +kernel
theorem dX1_isTrue_103 : decode cX1_isTrue 103 = .ok (.ireturn, 1) := by decide +kernel
theorem dX1_isTrue_104 : decode cX1_isTrue 104 = .ok (.iload_n 1, 1) := by decide +kernel
theorem dX1_isTrue_105 : decode cX1_isTrue 105 = .ok (.iload_n 2, 1) := by decide +kernel
theorem dX1_isTrue_106 : decode cX1_isTrue 106 = .ok (.if_icmp .ne 7, 3) := by decide +kernel
theorem dX1_isTrue_109 : decode cX1_isTrue 109 = .ok (.iconst 1, 1) := by decide +kernel
theorem dX1_isTrue_110 : decode cX1_isTrue 110 = .ok (.goto 4, 3) := by decide +kernel
theorem dX1_isTrue_113 : decode cX1_isTrue 113 = .ok (.iconst 0, 1) := by decide +kernel
theorem dX1_isTrue_114 : decode cX1_isTrue 114 = .ok (.ireturn, 1) := by decide +kernel
theorem dX1_isTrue_115 : decode cX1_isTrue 115 = .ok (.iload_n 1, 1) := by decide +kernel
theorem dX1_isTrue_116 : decode cX1_isTrue 116 = .ok (.iload_n 2, 1) := by decide +kernel
theorem dX1_isTrue_117 : decode cX1_isTrue 117 = .ok (.if_icmp .eq 7, 3) := by decide +kernel
theorem dX1_isTrue_120 : decode cX1_isTrue 120 = .ok (.iconst 1, 1) := by decide +kernel
theorem dX1_isTrue_121 : decode cX1_isTrue 121 = .ok (.goto 4, 3) := by decide +kernel
theorem dX1_isTrue_124 : decode cX1_isTrue 124 = .ok (.iconst 0, 1) := by decide +kernel
theorem dX1_isTrue_125 : decode cX1_isTrue 125 = .ok (.ireturn, 1) := by decide +kernel
theorem dX1_isRow_0 : decode cX1_isRow 0 = .ok (.iload_n 0, 1) := by decide +kernel
theorem dX1_isRow_1 : decode cX1_isRow 1 = .ok (.ifCond .lt 13, 3) := by decide +kernel
theorem dX1_isRow_4 : decode cX1_isRow 4 = .ok (.iload_n 0, 1) := by decide +kernel
theorem dX1_isRow_5 : decode cX1_isRow 5 = .ok (.bipush 8, 2) := by decide +kernel
theorem dX1_isRow_7 : decode cX1_isRow 7 = .ok (.if_icmp .ge 7, 3) := by decide +kernel
theorem dX1_isRow_10 : decode cX1_isRow 10 = .ok (.iconst 1, 1) := by decide +kernel
theorem dX1_isRow_11 : decode cX1_isRow 11 = .ok (.goto 4, 3) := by decide +kernel
theorem dX1_isRow_14 : decode cX1_isRow 14 = .ok (.iconst 0, 1) := by decide +kernel
theorem dX1_isRow_15 : decode cX1_isRow 15 = .ok (.ireturn, 1) := by decide +kernel
theorem dX1_isPlace_0 : decode cX1_isPlace 0 = .ok (.iload_n 0, 1) := by decide +kernel
theorem dX1_isPlace_1 : decode cX1_isPlace 1 = .ok (.ifCond .lt 13, 3) := by decide +kernel
theorem dX1_isPlace_4 : decode cX1_isPlace 4 = .ok (.iload_n 0, 1) := by decide +kernel
theorem dX1_isPlace_5 : decode cX1_isPlace 5 = .ok (.bipush 12, 2) := by decide +kernel
theorem dX1_isPlace_7 : decode cX1_isPlace 7 = .ok (.if_icmp .ge 7, 3) := by decide +kernel
theorem dX1_isPlace_10 : decode cX1_isPlace 10 = .ok (.iconst 1, 1) := by decide +kernel
theorem dX1_isPlace_11 : decode cX1_isPlace 11 = .ok (.goto 4, 3) := by decide +kernel
theorem dX1_isPlace_14 : decode cX1_isPlace 14 = .ok (.iconst 0, 1) := by decide +kernel
theorem dX1_isPlace_15 : decode cX1_isPlace 15 = .ok (.ireturn, 1) := by decide +kernel
theorem dX1_isGate_0 : decode cX1_isGate 0 = .ok (.iload_n 0, 1) := by decide +kernel
theorem dX1_isGate_1 : decode cX1_isGate 1 = .ok (.ifCond .lt 12, 3) := by decide +kernel
theorem dX1_isGate_4 : decode cX1_isGate 4 = .ok (.iload_n 0, 1) := by decide +kernel
theorem dX1_isGate_5 : decode cX1_isGate 5 = .ok (.iconst 4, 1) := by decide +kernel
theorem dX1_isGate_6 : decode cX1_isGate 6 = .ok (.if_icmp .ge 7, 3) := by decide +kernel
theorem dX1_isGate_9 : decode cX1_isGate 9 = .ok (.iconst 1, 1) := by decide +kernel
theorem dX1_isGate_10 : decode cX1_isGate 10 = .ok (.goto 4, 3) := by decide +kernel
theorem dX1_isGate_13 : decode cX1_isGate 13 = .ok (.iconst 0, 1) := by decide +kernel
theorem dX1_isGate_14 : decode cX1_isGate 14 = .ok (.ireturn, 1) := by decide +kernel
theorem dX1_isNumber_0 : decode cX1_isNumber 0 = .ok (.iload_n 0, 1) := by decide +kernel
theorem dX1_isNumber_1 : decode cX1_isNumber 1 = .ok (.ldc 23, 2) := by decide +kernel
theorem dX1_isNumber_3 : decode cX1_isNumber 3 = .ok (.if_icmp .eq 15, 3) := by decide +kernel
theorem dX1_isNumber_6 : decode cX1_isNumber 6 = .ok (.iload_n 0, 1) := by decide +kernel
theorem dX1_isNumber_7 : decode cX1_isNumber 7 = .ok (.ldc 24, 2) := by decide +kernel
theorem dX1_isNumber_9 : decode cX1_isNumber 9 = .ok (.if_icmp .lt 13, 3) := by decide +kernel
theorem dX1_isNumber_12 : decode cX1_isNumber 12 = .ok (.iload_n 0, 1) := by decide +kernel
theorem dX1_isNumber_13 : decode cX1_isNumber 13 = .ok (.ldc 25, 2) := by decide +kernel
theorem dX1_isNumber_15 : decode cX1_isNumber 15 = .ok (.if_icmp .gt 7, 3) := by decide +kernel
theorem dX1_isNumber_18 : decode cX1_isNumber 18 = .ok (.iconst 1, 1) := by decide +kernel
theorem dX1_isNumber_19 : decode cX1_isNumber 19 = .ok (.goto 4, 3) := by decide +kernel
theorem dX1_isNumber_22 : decode cX1_isNumber 22 = .ok (.iconst 0, 1) := by decide +kernel
theorem dX1_isNumber_23 : decode cX1_isNumber 23 = .ok (.ireturn, 1) := by decide +kernel
theorem dX1_isSign_0 : decode cX1_isSign 0 = .ok (.iload_n 0, 1) := by decide +kernel
theorem dX1_isSign_1 : decode cX1_isSign 1 = .ok (.ifCond .lt 12, 3) := by decide +kernel
theorem dX1_isSign_4 : decode cX1_isSign 4 = .ok (.iload_n 0, 1) := by decide +kernel
theorem dX1_isSign_5 : decode cX1_isSign 5 = .ok (.iconst 5, 1) := by decide +kernel
theorem dX1_isSign_6 : decode cX1_isSign 6 = .ok (.if_icmp .gt 7, 3) := by decide +kernel
theorem dX1_isSign_9 : decode cX1_isSign 9 = .ok (.iconst 1, 1) := by decide +kernel
theorem dX1_isSign_10 : decode cX1_isSign 10 = .ok (.goto 4, 3) := by decide +kernel
theorem dX1_isSign_13 : decode cX1_isSign 13 = .ok (.iconst 0, 1) := by decide +kernel
theorem dX1_isSign_14 : decode cX1_isSign 14 = .ok (.ireturn, 1) := by decide +kernel
theorem dX1_areOneSort_0 : decode cX1_areOneSort 0 = .ok (.iload_n 0, 1) := by decide +kernel
theorem dX1_areOneSort_1 : decode cX1_areOneSort 1 = .ok (.iconst 4, 1) := by decide +kernel
theorem dX1_areOneSort_2 : decode cX1_areOneSort 2 = .ok (.idiv, 1) := by decide +kernel
theorem dX1_areOneSort_3 : decode cX1_areOneSort 3 = .ok (.iload_n 1, 1) := by decide +kernel
theorem dX1_areOneSort_4 : decode cX1_areOneSort 4 = .ok (.iconst 4, 1) := by decide +kernel
theorem dX1_areOneSort_5 : decode cX1_areOneSort 5 = .ok (.idiv, 1) := by decide +kernel
theorem dX1_areOneSort_6 : decode cX1_areOneSort 6 = .ok (.if_icmp .ne 7, 3) := by decide +kernel
theorem dX1_areOneSort_9 : decode cX1_areOneSort 9 = .ok (.iconst 1, 1) := by decide +kernel
theorem dX1_areOneSort_10 : decode cX1_areOneSort 10 = .ok (.goto 4, 3) := by decide +kernel
theorem dX1_areOneSort_13 : decode cX1_areOneSort 13 = .ok (.iconst 0, 1) := by decide +kernel
theorem dX1_areOneSort_14 : decode cX1_areOneSort 14 = .ok (.ireturn, 1) := by decide +kernel
theorem dX1_may_0 : decode cX1_may 0 = .ok (.aload_n 0, 1) := by decide +kernel
theorem dX1_may_1 : decode cX1_may 1 = .ok (.iload_n 1, 1) := by decide +kernel
theorem dX1_may_2 : decode cX1_may 2 = .ok (.ifCond .eq 15, 3) := by decide +kernel
theorem dX1_may_5 : decode cX1_may 5 = .ok (.iload_n 2, 1) := by decide +kernel
theorem dX1_may_6 : decode cX1_may 6 = .ok (.ifCond .eq 7, 3) := by decide +kernel
theorem dX1_may_9 : decode cX1_may 9 = .ok (.iconst 0, 1) := by decide +kernel
theorem dX1_may_10 : decode cX1_may 10 = .ok (.goto 8, 3) := by decide +kernel
theorem dX1_may_13 : decode cX1_may 13 = .ok (.iconst 2, 1) := by decide +kernel
theorem dX1_may_14 : decode cX1_may 14 = .ok (.goto 4, 3) := by decide +kernel
theorem dX1_may_17 : decode cX1_may 17 = .ok (.iconst 1, 1) := by decide +kernel
theorem dX1_may_18 : decode cX1_may 18 = .ok (.putfield 26, 3) := by decide +kernel
theorem dX1_may_21 : decode cX1_may 21 = .ok (.aload_n 0, 1) := by decide +kernel
theorem dX1_may_22 : decode cX1_may 22 = .ok (.getfield 26, 3) := by decide +kernel
theorem dX1_may_25 : decode cX1_may 25 = .ok (.ifCond .ne 7, 3) := by decide +kernel
theorem dX1_may_28 : decode cX1_may 28 = .ok (.iconst 1, 1) := by decide +kernel
theorem dX1_may_29 : decode cX1_may 29 = .ok (.goto 4, 3) := by decide +kernel
theorem dX1_may_32 : decode cX1_may 32 = .ok (.iconst 0, 1) := by decide +kernel
theorem dX1_may_33 : decode cX1_may 33 = .ok (.ireturn, 1) := by decide +kernel
theorem dX1_thrown_0 : decode cX1_thrown 0 = .ok (.aload_n 0, 1) := by decide +kernel
theorem dX1_thrown_1 : decode cX1_thrown 1 = .ok (.getfield 26, 3) := by decide +kernel
theorem dX1_thrown_4 : decode cX1_thrown 4 = .ok (.ireturn, 1) := by decide +kernel
theorem dX1_at_0 : decode cX1_at 0 = .ok (.aload_n 0, 1) := by decide +kernel
theorem dX1_at_1 : decode cX1_at 1 = .ok (.getfield 7, 3) := by decide +kernel
theorem dX1_at_4 : decode cX1_at 4 = .ok (.bipush 12, 2) := by decide +kernel
theorem dX1_at_6 : decode cX1_at 6 = .ok (.iload_n 1, 1) := by decide +kernel
theorem dX1_at_7 : decode cX1_at 7 = .ok (.imul, 1) := by decide +kernel
theorem dX1_at_8 : decode cX1_at 8 = .ok (.iload_n 2, 1) := by decide +kernel
theorem dX1_at_9 : decode cX1_at 9 = .ok (.iadd, 1) := by decide +kernel
theorem dX1_at_10 : decode cX1_at 10 = .ok (.iaload, 1) := by decide +kernel
theorem dX1_at_11 : decode cX1_at 11 = .ok (.ireturn, 1) := by decide +kernel
theorem dX1_levelFor_0 : decode cX1_levelFor 0 = .ok (.aload_n 0, 1) := by decide +kernel
theorem dX1_levelFor_1 : decode cX1_levelFor 1 = .ok (.getfield 13, 3) := by decide +kernel
theorem dX1_levelFor_4 : decode cX1_levelFor 4 = .ok (.iconst 2, 1) := by decide +kernel
theorem dX1_levelFor_5 : decode cX1_levelFor 5 = .ok (.iload_n 1, 1) := by decide +kernel
theorem dX1_levelFor_6 : decode cX1_levelFor 6 = .ok (.imul, 1) := by decide +kernel
theorem dX1_levelFor_7 : decode cX1_levelFor 7 = .ok (.iload_n 2, 1) := by decide +kernel
theorem dX1_levelFor_8 : decode cX1_levelFor 8 = .ok (.iconst 4, 1) := by decide +kernel
theorem dX1_levelFor_9 : decode cX1_levelFor 9 = .ok (.idiv, 1) := by decide +kernel
theorem dX1_levelFor_10 : decode cX1_levelFor 10 = .ok (.iadd, 1) := by decide +kernel
theorem dX1_levelFor_11 : decode cX1_levelFor 11 = .ok (.iaload, 1) := by decide +kernel
theorem dX1_levelFor_12 : decode cX1_levelFor 12 = .ok (.ireturn, 1) := by decide +kernel
set_option maxRecDepth 20000 in
theorem ggX1_put_X1_isRow : GoodIn wsX1_put wsX1_isRow := goodIn_r _ [5] (by decide +kernel) (by decide +kernel)
set_option maxRecDepth 20000 in
theorem gX1_put_X1_isRow : GoodIn wsX1_put (va_wsS RX1 30 yX1_isRow wsX1_isRow) := goodIn_app (goodIn_of _ (by decide +kernel)) ggX1_put_X1_isRow
set_option maxRecDepth 20000 in
theorem ggX1_put_X1_isPlace : GoodIn wsX1_put wsX1_isPlace := goodIn_r _ [8] (by decide +kernel) (by decide +kernel)
set_option maxRecDepth 20000 in
theorem gX1_put_X1_isPlace : GoodIn wsX1_put (va_wsS RX1 34 yX1_isPlace wsX1_isPlace) := goodIn_app (goodIn_of _ (by decide +kernel)) ggX1_put_X1_isPlace
set_option maxRecDepth 20000 in
theorem ggX1_put_X1_isNumber : GoodIn wsX1_put wsX1_isNumber := goodIn_r _ [11, 12, 13, 14] (by decide +kernel) (by decide +kernel)
set_option maxRecDepth 20000 in
theorem gX1_put_X1_isNumber : GoodIn wsX1_put (va_wsS RX1 37 yX1_isNumber wsX1_isNumber) := goodIn_app (goodIn_of _ (by decide +kernel)) ggX1_put_X1_isNumber
set_option maxRecDepth 20000 in
theorem ggX1_put_X1_may : GoodIn wsX1_put wsX1_may := goodIn_r _ [18, 19, 24, 25, 26, 27, 28] (by decide +kernel) (by decide +kernel)
set_option maxRecDepth 20000 in
theorem gX1_put_X1_may : GoodIn wsX1_put (wsV RX1 40 RX1 yX1_may wsX1_may) := goodIn_app (goodIn_of _ (by decide +kernel)) ggX1_put_X1_may
set_option maxRecDepth 20000 in
theorem ggX1_put_X1_at : GoodIn wsX1_put wsX1_at := goodIn_r _ [23, 1, 24, 25, 26, 27, 28] (by decide +kernel) (by decide +kernel)
set_option maxRecDepth 20000 in
theorem gX1_put_X1_at : GoodIn wsX1_put (wsV RX1 44 RX1 yX1_at wsX1_at) := goodIn_app (goodIn_of _ (by decide +kernel)) ggX1_put_X1_at
theorem dX1_put_0 : decode cX1_put 0 = .ok (.aload_n 0, 1) := by decide +kernel
theorem dX1_put_1 : decode cX1_put 1 = .ok (.iload_n 1, 1) := by decide +kernel
theorem dX1_put_2 : decode cX1_put 2 = .ok (.invokestatic 30, 3) := by decide +kernel
theorem dX1_put_5 : decode cX1_put 5 = .ok (.ifCond .eq 14, 3) := by decide +kernel
theorem dX1_put_8 : decode cX1_put 8 = .ok (.iload_n 2, 1) := by decide +kernel
theorem dX1_put_9 : decode cX1_put 9 = .ok (.invokestatic 34, 3) := by decide +kernel
theorem dX1_put_12 : decode cX1_put 12 = .ok (.ifCond .eq 7, 3) := by decide +kernel
theorem dX1_put_15 : decode cX1_put 15 = .ok (.iconst 1, 1) := by decide +kernel
theorem dX1_put_16 : decode cX1_put 16 = .ok (.goto 4, 3) := by decide +kernel
theorem dX1_put_19 : decode cX1_put 19 = .ok (.iconst 0, 1) := by decide +kernel
theorem dX1_put_20 : decode cX1_put 20 = .ok (.iload_n 3, 1) := by decide +kernel
theorem dX1_put_21 : decode cX1_put 21 = .ok (.invokestatic 37, 3) := by decide +kernel
theorem dX1_put_24 : decode cX1_put 24 = .ok (.invokevirtual 40, 3) := by decide +kernel
theorem dX1_put_27 : decode cX1_put 27 = .ok (.ifCond .ne 5, 3) := by decide +kernel
theorem dX1_put_30 : decode cX1_put 30 = .ok (.iconst 0, 1) := by decide +kernel
theorem dX1_put_31 : decode cX1_put 31 = .ok (.ireturn, 1) := by decide +kernel
theorem dX1_put_32 : decode cX1_put 32 = .ok (.aload_n 0, 1) := by decide +kernel
theorem dX1_put_33 : decode cX1_put 33 = .ok (.iload_n 1, 1) := by decide +kernel
theorem dX1_put_34 : decode cX1_put 34 = .ok (.iload_n 2, 1) := by decide +kernel
theorem dX1_put_35 : decode cX1_put 35 = .ok (.invokevirtual 44, 3) := by decide +kernel
theorem dX1_put_38 : decode cX1_put 38 = .ok (.iload_n 3, 1) := by decide +kernel
theorem dX1_put_39 : decode cX1_put 39 = .ok (.if_icmp .eq 7, 3) := by decide +kernel
theorem dX1_put_42 : decode cX1_put 42 = .ok (.iconst 1, 1) := by decide +kernel
theorem dX1_put_43 : decode cX1_put 43 = .ok (.goto 4, 3) := by decide +kernel
theorem dX1_put_46 : decode cX1_put 46 = .ok (.iconst 0, 1) := by decide +kernel
theorem dX1_put_47 : decode cX1_put 47 = .ok (.istore 4, 2) := by decide +kernel
theorem dX1_put_49 : decode cX1_put 49 = .ok (.aload_n 0, 1) := by decide +kernel
theorem dX1_put_50 : decode cX1_put 50 = .ok (.getfield 7, 3) := by decide +kernel
theorem dX1_put_53 : decode cX1_put 53 = .ok (.bipush 12, 2) := by decide +kernel
theorem dX1_put_55 : decode cX1_put 55 = .ok (.iload_n 1, 1) := by decide +kernel
theorem dX1_put_56 : decode cX1_put 56 = .ok (.imul, 1) := by decide +kernel
theorem dX1_put_57 : decode cX1_put 57 = .ok (.iload_n 2, 1) := by decide +kernel
theorem dX1_put_58 : decode cX1_put 58 = .ok (.iadd, 1) := by decide +kernel
theorem dX1_put_59 : decode cX1_put 59 = .ok (.iload_n 3, 1) := by decide +kernel
theorem dX1_put_60 : decode cX1_put 60 = .ok (.iastore, 1) := by decide +kernel
theorem dX1_put_61 : decode cX1_put 61 = .ok (.iload 4, 2) := by decide +kernel
theorem dX1_put_63 : decode cX1_put 63 = .ok (.ireturn, 1) := by decide +kernel
set_option maxRecDepth 20000 in
theorem ggX1_reading_X1_isRow : GoodIn wsX1_reading wsX1_isRow := goodIn_r _ [4] (by decide +kernel) (by decide +kernel)
set_option maxRecDepth 20000 in
theorem gX1_reading_X1_isRow : GoodIn wsX1_reading (va_wsS RX1 30 yX1_isRow wsX1_isRow) := goodIn_app (goodIn_of _ (by decide +kernel)) ggX1_reading_X1_isRow
set_option maxRecDepth 20000 in
theorem ggX1_reading_X1_isPlace : GoodIn wsX1_reading wsX1_isPlace := goodIn_r _ [7] (by decide +kernel) (by decide +kernel)
set_option maxRecDepth 20000 in
theorem gX1_reading_X1_isPlace : GoodIn wsX1_reading (va_wsS RX1 34 yX1_isPlace wsX1_isPlace) := goodIn_app (goodIn_of _ (by decide +kernel)) ggX1_reading_X1_isPlace
set_option maxRecDepth 20000 in
theorem ggX1_reading_X1_may : GoodIn wsX1_reading wsX1_may := goodIn_r _ [11, 12, 18, 19, 20, 21, 22] (by decide +kernel) (by decide +kernel)
set_option maxRecDepth 20000 in
theorem gX1_reading_X1_may : GoodIn wsX1_reading (wsV RX1 40 RX1 yX1_may wsX1_may) := goodIn_app (goodIn_of _ (by decide +kernel)) ggX1_reading_X1_may
set_option maxRecDepth 20000 in
theorem ggX1_reading_X1_at : GoodIn wsX1_reading wsX1_at := goodIn_r _ [16, 17, 18, 19, 20, 21, 22] (by decide +kernel) (by decide +kernel)
set_option maxRecDepth 20000 in
theorem gX1_reading_X1_at : GoodIn wsX1_reading (wsV RX1 44 RX1 yX1_at wsX1_at) := goodIn_app (goodIn_of _ (by decide +kernel)) ggX1_reading_X1_at
theorem dX1_reading_0 : decode cX1_reading 0 = .ok (.aload_n 0, 1) := by decide +kernel
theorem dX1_reading_1 : decode cX1_reading 1 = .ok (.iload_n 1, 1) := by decide +kernel
theorem dX1_reading_2 : decode cX1_reading 2 = .ok (.invokestatic 30, 3) := by decide +kernel
theorem dX1_reading_5 : decode cX1_reading 5 = .ok (.ifCond .eq 14, 3) := by decide +kernel
theorem dX1_reading_8 : decode cX1_reading 8 = .ok (.iload_n 2, 1) := by decide +kernel
theorem dX1_reading_9 : decode cX1_reading 9 = .ok (.invokestatic 34, 3) := by decide +kernel
theorem dX1_reading_12 : decode cX1_reading 12 = .ok (.ifCond .eq 7, 3) := by decide +kernel
theorem dX1_reading_15 : decode cX1_reading 15 = .ok (.iconst 1, 1) := by decide +kernel
theorem dX1_reading_16 : decode cX1_reading 16 = .ok (.goto 4, 3) := by decide +kernel
theorem dX1_reading_19 : decode cX1_reading 19 = .ok (.iconst 0, 1) := by decide +kernel
theorem dX1_reading_20 : decode cX1_reading 20 = .ok (.iconst 1, 1) := by decide +kernel
theorem dX1_reading_21 : decode cX1_reading 21 = .ok (.invokevirtual 40, 3) := by decide +kernel
theorem dX1_reading_24 : decode cX1_reading 24 = .ok (.ifCond .ne 5, 3) := by decide +kernel
theorem dX1_reading_27 : decode cX1_reading 27 = .ok (.iconst 0, 1) := by decide +kernel
theorem dX1_reading_28 : decode cX1_reading 28 = .ok (.ireturn, 1) := by decide +kernel
theorem dX1_reading_29 : decode cX1_reading 29 = .ok (.aload_n 0, 1) := by decide +kernel
theorem dX1_reading_30 : decode cX1_reading 30 = .ok (.iload_n 1, 1) := by decide +kernel
theorem dX1_reading_31 : decode cX1_reading 31 = .ok (.iload_n 2, 1) := by decide +kernel
theorem dX1_reading_32 : decode cX1_reading 32 = .ok (.invokevirtual 44, 3) := by decide +kernel
theorem dX1_reading_35 : decode cX1_reading 35 = .ok (.ireturn, 1) := by decide +kernel
set_option maxRecDepth 20000 in
theorem ggX1_level_X1_isGate : GoodIn wsX1_level wsX1_isGate := goodIn_r _ [5] (by decide +kernel) (by decide +kernel)
set_option maxRecDepth 20000 in
theorem gX1_level_X1_isGate : GoodIn wsX1_level (va_wsS RX1 48 yX1_isGate wsX1_isGate) := goodIn_app (goodIn_of _ (by decide +kernel)) ggX1_level_X1_isGate
set_option maxRecDepth 20000 in
theorem ggX1_level_X1_isNumber : GoodIn wsX1_level wsX1_isNumber := goodIn_r _ [8, 9, 10, 11] (by decide +kernel) (by decide +kernel)
set_option maxRecDepth 20000 in
theorem gX1_level_X1_isNumber : GoodIn wsX1_level (va_wsS RX1 37 yX1_isNumber wsX1_isNumber) := goodIn_app (goodIn_of _ (by decide +kernel)) ggX1_level_X1_isNumber
set_option maxRecDepth 20000 in
theorem ggX1_level_X1_may : GoodIn wsX1_level wsX1_may := goodIn_r _ [15, 16, 17, 18, 19, 20, 21] (by decide +kernel) (by decide +kernel)
set_option maxRecDepth 20000 in
theorem gX1_level_X1_may : GoodIn wsX1_level (wsV RX1 40 RX1 yX1_may wsX1_may) := goodIn_app (goodIn_of _ (by decide +kernel)) ggX1_level_X1_may
theorem dX1_level_0 : decode cX1_level 0 = .ok (.aload_n 0, 1) := by decide +kernel
theorem dX1_level_1 : decode cX1_level 1 = .ok (.iload_n 1, 1) := by decide +kernel
theorem dX1_level_2 : decode cX1_level 2 = .ok (.invokestatic 48, 3) := by decide +kernel
theorem dX1_level_5 : decode cX1_level 5 = .ok (.iload_n 3, 1) := by decide +kernel
theorem dX1_level_6 : decode cX1_level 6 = .ok (.invokestatic 37, 3) := by decide +kernel
theorem dX1_level_9 : decode cX1_level 9 = .ok (.invokevirtual 40, 3) := by decide +kernel
theorem dX1_level_12 : decode cX1_level 12 = .ok (.ifCond .ne 5, 3) := by decide +kernel
theorem dX1_level_15 : decode cX1_level 15 = .ok (.iconst 0, 1) := by decide +kernel
theorem dX1_level_16 : decode cX1_level 16 = .ok (.ireturn, 1) := by decide +kernel
theorem dX1_level_17 : decode cX1_level 17 = .ok (.iload_n 2, 1) := by decide +kernel
theorem dX1_level_18 : decode cX1_level 18 = .ok (.ifCond .eq 11, 3) := by decide +kernel
theorem dX1_level_21 : decode cX1_level 21 = .ok (.iconst 2, 1) := by decide +kernel
theorem dX1_level_22 : decode cX1_level 22 = .ok (.iload_n 1, 1) := by decide +kernel
theorem dX1_level_23 : decode cX1_level 23 = .ok (.imul, 1) := by decide +kernel
theorem dX1_level_24 : decode cX1_level 24 = .ok (.iconst 1, 1) := by decide +kernel
theorem dX1_level_25 : decode cX1_level 25 = .ok (.iadd, 1) := by decide +kernel
theorem dX1_level_26 : decode cX1_level 26 = .ok (.goto 6, 3) := by decide +kernel
theorem dX1_level_29 : decode cX1_level 29 = .ok (.iconst 2, 1) := by decide +kernel
theorem dX1_level_30 : decode cX1_level 30 = .ok (.iload_n 1, 1) := by decide +kernel
theorem dX1_level_31 : decode cX1_level 31 = .ok (.imul, 1) := by decide +kernel
theorem dX1_level_32 : decode cX1_level 32 = .ok (.istore 4, 2) := by decide +kernel
theorem dX1_level_34 : decode cX1_level 34 = .ok (.aload_n 0, 1) := by decide +kernel
theorem dX1_level_35 : decode cX1_level 35 = .ok (.getfield 13, 3) := by decide +kernel
theorem dX1_level_38 : decode cX1_level 38 = .ok (.iload 4, 2) := by decide +kernel
theorem dX1_level_40 : decode cX1_level 40 = .ok (.iaload, 1) := by decide +kernel
theorem dX1_level_41 : decode cX1_level 41 = .ok (.iload_n 3, 1) := by decide +kernel
theorem dX1_level_42 : decode cX1_level 42 = .ok (.if_icmp .eq 7, 3) := by decide +kernel
theorem dX1_level_45 : decode cX1_level 45 = .ok (.iconst 1, 1) := by decide +kernel
theorem dX1_level_46 : decode cX1_level 46 = .ok (.goto 4, 3) := by decide +kernel
theorem dX1_level_49 : decode cX1_level 49 = .ok (.iconst 0, 1) := by decide +kernel
theorem dX1_level_50 : decode cX1_level 50 = .ok (.istore 5, 2) := by decide +kernel
theorem dX1_level_52 : decode cX1_level 52 = .ok (.aload_n 0, 1) := by decide +kernel
theorem dX1_level_53 : decode cX1_level 53 = .ok (.getfield 13, 3) := by decide +kernel
theorem dX1_level_56 : decode cX1_level 56 = .ok (.iload 4, 2) := by decide +kernel
theorem dX1_level_58 : decode cX1_level 58 = .ok (.iload_n 3, 1) := by decide +kernel
theorem dX1_level_59 : decode cX1_level 59 = .ok (.iastore, 1) := by decide +kernel
theorem dX1_level_60 : decode cX1_level 60 = .ok (.iload 5, 2) := by decide +kernel
theorem dX1_level_62 : decode cX1_level 62 = .ok (.ireturn, 1) := by decide +kernel
set_option maxRecDepth 20000 in
theorem ggX1_copy_X1_isRow : GoodIn wsX1_copy wsX1_isRow := goodIn_r _ [6] (by decide +kernel) (by decide +kernel)
set_option maxRecDepth 20000 in
theorem gX1_copy_X1_isRow : GoodIn wsX1_copy (va_wsS RX1 30 yX1_isRow wsX1_isRow) := goodIn_app (goodIn_of _ (by decide +kernel)) ggX1_copy_X1_isRow
set_option maxRecDepth 20000 in
theorem ggX1_copy_X1_areOneSort : GoodIn wsX1_copy wsX1_areOneSort := goodIn_r _ [9] (by decide +kernel) (by decide +kernel)
set_option maxRecDepth 20000 in
theorem gX1_copy_X1_areOneSort : GoodIn wsX1_copy (va_wsS RX1 51 yX1_areOneSort wsX1_areOneSort) := goodIn_app (goodIn_of _ (by decide +kernel)) ggX1_copy_X1_areOneSort
set_option maxRecDepth 20000 in
theorem ggX1_copy_X1_may : GoodIn wsX1_copy wsX1_may := goodIn_r _ [13, 14, 19, 20, 21, 22, 23] (by decide +kernel) (by decide +kernel)
set_option maxRecDepth 20000 in
theorem gX1_copy_X1_may : GoodIn wsX1_copy (wsV RX1 40 RX1 yX1_may wsX1_may) := goodIn_app (goodIn_of _ (by decide +kernel)) ggX1_copy_X1_may
set_option maxRecDepth 20000 in
theorem ggX1_copy_X1_at : GoodIn wsX1_copy wsX1_at := goodIn_r _ [18, 1, 19, 20, 21, 22, 23] (by decide +kernel) (by decide +kernel)
set_option maxRecDepth 20000 in
theorem gX1_copy_X1_at : GoodIn wsX1_copy (wsV RX1 44 RX1 yX1_at wsX1_at) := goodIn_app (goodIn_of _ (by decide +kernel)) ggX1_copy_X1_at
theorem dX1_copy_0 : decode cX1_copy 0 = .ok (.aload_n 0, 1) := by decide +kernel
theorem dX1_copy_1 : decode cX1_copy 1 = .ok (.iload_n 1, 1) := by decide +kernel
theorem dX1_copy_2 : decode cX1_copy 2 = .ok (.invokestatic 30, 3) := by decide +kernel
theorem dX1_copy_5 : decode cX1_copy 5 = .ok (.ifCond .eq 14, 3) := by decide +kernel
theorem dX1_copy_8 : decode cX1_copy 8 = .ok (.iload_n 2, 1) := by decide +kernel
theorem dX1_copy_9 : decode cX1_copy 9 = .ok (.invokestatic 30, 3) := by decide +kernel
theorem dX1_copy_12 : decode cX1_copy 12 = .ok (.ifCond .eq 7, 3) := by decide +kernel
theorem dX1_copy_15 : decode cX1_copy 15 = .ok (.iconst 1, 1) := by decide +kernel
theorem dX1_copy_16 : decode cX1_copy 16 = .ok (.goto 4, 3) := by decide +kernel
theorem dX1_copy_19 : decode cX1_copy 19 = .ok (.iconst 0, 1) := by decide +kernel
theorem dX1_copy_20 : decode cX1_copy 20 = .ok (.iload_n 1, 1) := by decide +kernel
theorem dX1_copy_21 : decode cX1_copy 21 = .ok (.iload_n 2, 1) := by decide +kernel
theorem dX1_copy_22 : decode cX1_copy 22 = .ok (.invokestatic 51, 3) := by decide +kernel
theorem dX1_copy_25 : decode cX1_copy 25 = .ok (.invokevirtual 40, 3) := by decide +kernel
theorem dX1_copy_28 : decode cX1_copy 28 = .ok (.ifCond .ne 5, 3) := by decide +kernel
theorem dX1_copy_31 : decode cX1_copy 31 = .ok (.iconst 0, 1) := by decide +kernel
theorem dX1_copy_32 : decode cX1_copy 32 = .ok (.ireturn, 1) := by decide +kernel
theorem dX1_copy_33 : decode cX1_copy 33 = .ok (.iconst 0, 1) := by decide +kernel
theorem dX1_copy_34 : decode cX1_copy 34 = .ok (.istore_n 3, 1) := by decide +kernel
theorem dX1_copy_35 : decode cX1_copy 35 = .ok (.iconst 0, 1) := by decide +kernel
theorem dX1_copy_36 : decode cX1_copy 36 = .ok (.istore 4, 2) := by decide +kernel
theorem dX1_copy_38 : decode cX1_copy 38 = .ok (.iload 4, 2) := by decide +kernel
theorem dX1_copy_40 : decode cX1_copy 40 = .ok (.bipush 12, 2) := by decide +kernel
theorem dX1_copy_42 : decode cX1_copy 42 = .ok (.if_icmp .ge 47, 3) := by decide +kernel
theorem dX1_copy_45 : decode cX1_copy 45 = .ok (.aload_n 0, 1) := by decide +kernel
theorem dX1_copy_46 : decode cX1_copy 46 = .ok (.iload_n 1, 1) := by decide +kernel
theorem dX1_copy_47 : decode cX1_copy 47 = .ok (.iload 4, 2) := by decide +kernel
theorem dX1_copy_49 : decode cX1_copy 49 = .ok (.invokevirtual 44, 3) := by decide +kernel
theorem dX1_copy_52 : decode cX1_copy 52 = .ok (.istore 5, 2) := by decide +kernel
theorem dX1_copy_54 : decode cX1_copy 54 = .ok (.aload_n 0, 1) := by decide +kernel
theorem dX1_copy_55 : decode cX1_copy 55 = .ok (.getfield 7, 3) := by decide +kernel
theorem dX1_copy_58 : decode cX1_copy 58 = .ok (.bipush 12, 2) := by decide +kernel
theorem dX1_copy_60 : decode cX1_copy 60 = .ok (.iload_n 2, 1) := by decide +kernel
theorem dX1_copy_61 : decode cX1_copy 61 = .ok (.imul, 1) := by decide +kernel
theorem dX1_copy_62 : decode cX1_copy 62 = .ok (.iload 4, 2) := by decide +kernel
theorem dX1_copy_64 : decode cX1_copy 64 = .ok (.iadd, 1) := by decide +kernel
theorem dX1_copy_65 : decode cX1_copy 65 = .ok (.iload 5, 2) := by decide +kernel
theorem dX1_copy_67 : decode cX1_copy 67 = .ok (.iastore, 1) := by decide +kernel
theorem dX1_copy_68 : decode cX1_copy 68 = .ok (.iload_n 3, 1) := by decide +kernel
theorem dX1_copy_69 : decode cX1_copy 69 = .ok (.iload 5, 2) := by decide +kernel
theorem dX1_copy_71 : decode cX1_copy 71 = .ok (.ldc 23, 2) := by decide +kernel
theorem dX1_copy_73 : decode cX1_copy 73 = .ok (.if_icmp .ne 7, 3) := by decide +kernel
theorem dX1_copy_76 : decode cX1_copy 76 = .ok (.iconst 1, 1) := by decide +kernel
theorem dX1_copy_77 : decode cX1_copy 77 = .ok (.goto 4, 3) := by decide +kernel
theorem dX1_copy_80 : decode cX1_copy 80 = .ok (.iconst 0, 1) := by decide +kernel
theorem dX1_copy_81 : decode cX1_copy 81 = .ok (.iadd, 1) := by decide +kernel
theorem dX1_copy_82 : decode cX1_copy 82 = .ok (.istore_n 3, 1) := by decide +kernel
theorem dX1_copy_83 : decode cX1_copy 83 = .ok (.iinc 4 1, 3) := by decide +kernel
theorem dX1_copy_86 : decode cX1_copy 86 = .ok (.goto (-48), 3) := by decide +kernel
theorem dX1_copy_89 : decode cX1_copy 89 = .ok (.iload_n 3, 1) := by decide +kernel
theorem dX1_copy_90 : decode cX1_copy 90 = .ok (.ireturn, 1) := by decide +kernel
set_option maxRecDepth 20000 in
theorem ggX1_straight_X1_isRow : GoodIn wsX1_straight wsX1_isRow := goodIn_r _ [4] (by decide +kernel) (by decide +kernel)
set_option maxRecDepth 20000 in
theorem gX1_straight_X1_isRow : GoodIn wsX1_straight (va_wsS RX1 30 yX1_isRow wsX1_isRow) := goodIn_app (goodIn_of _ (by decide +kernel)) ggX1_straight_X1_isRow
set_option maxRecDepth 20000 in
theorem ggX1_straight_X1_isGate : GoodIn wsX1_straight wsX1_isGate := goodIn_r _ [7] (by decide +kernel) (by decide +kernel)
set_option maxRecDepth 20000 in
theorem gX1_straight_X1_isGate : GoodIn wsX1_straight (va_wsS RX1 48 yX1_isGate wsX1_isGate) := goodIn_app (goodIn_of _ (by decide +kernel)) ggX1_straight_X1_isGate
set_option maxRecDepth 20000 in
theorem ggX1_straight_X1_isSign : GoodIn wsX1_straight wsX1_isSign := goodIn_r _ [10] (by decide +kernel) (by decide +kernel)
set_option maxRecDepth 20000 in
theorem gX1_straight_X1_isSign : GoodIn wsX1_straight (va_wsS RX1 55 yX1_isSign wsX1_isSign) := goodIn_app (goodIn_of _ (by decide +kernel)) ggX1_straight_X1_isSign
set_option maxRecDepth 20000 in
theorem ggX1_straight_X1_may : GoodIn wsX1_straight wsX1_may := goodIn_r _ [14, 15, 30, 31, 32, 33, 34] (by decide +kernel) (by decide +kernel)
set_option maxRecDepth 20000 in
theorem gX1_straight_X1_may : GoodIn wsX1_straight (wsV RX1 40 RX1 yX1_may wsX1_may) := goodIn_app (goodIn_of _ (by decide +kernel)) ggX1_straight_X1_may
set_option maxRecDepth 20000 in
theorem ggX1_straight_X1_at : GoodIn wsX1_straight wsX1_at := goodIn_r _ [19, 20, 30, 31, 32, 33, 34] (by decide +kernel) (by decide +kernel)
set_option maxRecDepth 20000 in
theorem gX1_straight_X1_at : GoodIn wsX1_straight (wsV RX1 44 RX1 yX1_at wsX1_at) := goodIn_app (goodIn_of _ (by decide +kernel)) ggX1_straight_X1_at
set_option maxRecDepth 20000 in
theorem ggX1_straight_X1_levelFor : GoodIn wsX1_straight wsX1_levelFor := goodIn_r _ [24, 25, 30, 31, 32, 33, 34] (by decide +kernel) (by decide +kernel)
set_option maxRecDepth 20000 in
theorem gX1_straight_X1_levelFor : GoodIn wsX1_straight (wsV RX1 58 RX1 yX1_levelFor wsX1_levelFor) := goodIn_app (goodIn_of _ (by decide +kernel)) ggX1_straight_X1_levelFor
set_option maxRecDepth 20000 in
theorem ggX1_straight_X1_isTrue : GoodIn wsX1_straight wsX1_isTrue := goodIn_r _ [28, 29] (by decide +kernel) (by decide +kernel)
set_option maxRecDepth 20000 in
theorem gX1_straight_X1_isTrue : GoodIn wsX1_straight (va_wsS RX1 61 yX1_isTrue wsX1_isTrue) := goodIn_app (goodIn_of _ (by decide +kernel)) ggX1_straight_X1_isTrue
theorem dX1_straight_0 : decode cX1_straight 0 = .ok (.aload_n 0, 1) := by decide +kernel
theorem dX1_straight_1 : decode cX1_straight 1 = .ok (.iload_n 1, 1) := by decide +kernel
theorem dX1_straight_2 : decode cX1_straight 2 = .ok (.invokestatic 30, 3) := by decide +kernel
theorem dX1_straight_5 : decode cX1_straight 5 = .ok (.ifCond .eq 14, 3) := by decide +kernel
theorem dX1_straight_8 : decode cX1_straight 8 = .ok (.iload_n 3, 1) := by decide +kernel
theorem dX1_straight_9 : decode cX1_straight 9 = .ok (.invokestatic 48, 3) := by decide +kernel
theorem dX1_straight_12 : decode cX1_straight 12 = .ok (.ifCond .eq 7, 3) := by decide +kernel
theorem dX1_straight_15 : decode cX1_straight 15 = .ok (.iconst 1, 1) := by decide +kernel
theorem dX1_straight_16 : decode cX1_straight 16 = .ok (.goto 4, 3) := by decide +kernel
theorem dX1_straight_19 : decode cX1_straight 19 = .ok (.iconst 0, 1) := by decide +kernel
theorem dX1_straight_20 : decode cX1_straight 20 = .ok (.iload_n 2, 1) := by decide +kernel
theorem dX1_straight_21 : decode cX1_straight 21 = .ok (.invokestatic 55, 3) := by decide +kernel
theorem dX1_straight_24 : decode cX1_straight 24 = .ok (.invokevirtual 40, 3) := by decide +kernel
theorem dX1_straight_27 : decode cX1_straight 27 = .ok (.ifCond .ne 5, 3) := by decide +kernel
theorem dX1_straight_30 : decode cX1_straight 30 = .ok (.iconst 0, 1) := by decide +kernel
theorem dX1_straight_31 : decode cX1_straight 31 = .ok (.ireturn, 1) := by decide +kernel
theorem dX1_straight_32 : decode cX1_straight 32 = .ok (.iconst 0, 1) := by decide +kernel
theorem dX1_straight_33 : decode cX1_straight 33 = .ok (.istore 4, 2) := by decide +kernel
theorem dX1_straight_35 : decode cX1_straight 35 = .ok (.iconst 0, 1) := by decide +kernel
theorem dX1_straight_36 : decode cX1_straight 36 = .ok (.istore 5, 2) := by decide +kernel
theorem dX1_straight_38 : decode cX1_straight 38 = .ok (.iload 5, 2) := by decide +kernel
theorem dX1_straight_40 : decode cX1_straight 40 = .ok (.bipush 12, 2) := by decide +kernel
theorem dX1_straight_42 : decode cX1_straight 42 = .ok (.if_icmp .ge 39, 3) := by decide +kernel
theorem dX1_straight_45 : decode cX1_straight 45 = .ok (.iload 4, 2) := by decide +kernel
theorem dX1_straight_47 : decode cX1_straight 47 = .ok (.iload_n 2, 1) := by decide +kernel
theorem dX1_straight_48 : decode cX1_straight 48 = .ok (.aload_n 0, 1) := by decide +kernel
theorem dX1_straight_49 : decode cX1_straight 49 = .ok (.iload_n 1, 1) := by decide +kernel
theorem dX1_straight_50 : decode cX1_straight 50 = .ok (.iload 5, 2) := by decide +kernel
theorem dX1_straight_52 : decode cX1_straight 52 = .ok (.invokevirtual 44, 3) := by decide +kernel
theorem dX1_straight_55 : decode cX1_straight 55 = .ok (.aload_n 0, 1) := by decide +kernel
theorem dX1_straight_56 : decode cX1_straight 56 = .ok (.iload_n 3, 1) := by decide +kernel
theorem dX1_straight_57 : decode cX1_straight 57 = .ok (.iload_n 1, 1) := by decide +kernel
theorem dX1_straight_58 : decode cX1_straight 58 = .ok (.invokevirtual 58, 3) := by decide +kernel
theorem dX1_straight_61 : decode cX1_straight 61 = .ok (.invokestatic 61, 3) := by decide +kernel
theorem dX1_straight_64 : decode cX1_straight 64 = .ok (.ifCond .eq 7, 3) := by decide +kernel
theorem dX1_straight_67 : decode cX1_straight 67 = .ok (.iconst 1, 1) := by decide +kernel
theorem dX1_straight_68 : decode cX1_straight 68 = .ok (.goto 4, 3) := by decide +kernel
theorem dX1_straight_71 : decode cX1_straight 71 = .ok (.iconst 0, 1) := by decide +kernel
theorem dX1_straight_72 : decode cX1_straight 72 = .ok (.iadd, 1) := by decide +kernel
theorem dX1_straight_73 : decode cX1_straight 73 = .ok (.istore 4, 2) := by decide +kernel
theorem dX1_straight_75 : decode cX1_straight 75 = .ok (.iinc 5 1, 3) := by decide +kernel
theorem dX1_straight_78 : decode cX1_straight 78 = .ok (.goto (-40), 3) := by decide +kernel
theorem dX1_straight_81 : decode cX1_straight 81 = .ok (.iload 4, 2) := by decide +kernel
theorem dX1_straight_83 : decode cX1_straight 83 = .ok (.ireturn, 1) := by decide +kernel
set_option maxRecDepth 20000 in
theorem ggX1_turned_X1_isRow : GoodIn wsX1_turned wsX1_isRow := goodIn_r _ [4] (by decide +kernel) (by decide +kernel)
set_option maxRecDepth 20000 in
theorem gX1_turned_X1_isRow : GoodIn wsX1_turned (va_wsS RX1 30 yX1_isRow wsX1_isRow) := goodIn_app (goodIn_of _ (by decide +kernel)) ggX1_turned_X1_isRow
set_option maxRecDepth 20000 in
theorem ggX1_turned_X1_isGate : GoodIn wsX1_turned wsX1_isGate := goodIn_r _ [7] (by decide +kernel) (by decide +kernel)
set_option maxRecDepth 20000 in
theorem gX1_turned_X1_isGate : GoodIn wsX1_turned (va_wsS RX1 48 yX1_isGate wsX1_isGate) := goodIn_app (goodIn_of _ (by decide +kernel)) ggX1_turned_X1_isGate
set_option maxRecDepth 20000 in
theorem ggX1_turned_X1_isSign : GoodIn wsX1_turned wsX1_isSign := goodIn_r _ [10] (by decide +kernel) (by decide +kernel)
set_option maxRecDepth 20000 in
theorem gX1_turned_X1_isSign : GoodIn wsX1_turned (va_wsS RX1 55 yX1_isSign wsX1_isSign) := goodIn_app (goodIn_of _ (by decide +kernel)) ggX1_turned_X1_isSign
set_option maxRecDepth 20000 in
theorem ggX1_turned_X1_may : GoodIn wsX1_turned wsX1_may := goodIn_r _ [14, 15, 30, 31, 32, 33, 34] (by decide +kernel) (by decide +kernel)
set_option maxRecDepth 20000 in
theorem gX1_turned_X1_may : GoodIn wsX1_turned (wsV RX1 40 RX1 yX1_may wsX1_may) := goodIn_app (goodIn_of _ (by decide +kernel)) ggX1_turned_X1_may
set_option maxRecDepth 20000 in
theorem ggX1_turned_X1_levelFor : GoodIn wsX1_turned wsX1_levelFor := goodIn_r _ [19, 20, 30, 31, 32, 33, 34] (by decide +kernel) (by decide +kernel)
set_option maxRecDepth 20000 in
theorem gX1_turned_X1_levelFor : GoodIn wsX1_turned (wsV RX1 58 RX1 yX1_levelFor wsX1_levelFor) := goodIn_app (goodIn_of _ (by decide +kernel)) ggX1_turned_X1_levelFor
set_option maxRecDepth 20000 in
theorem ggX1_turned_X1_at : GoodIn wsX1_turned wsX1_at := goodIn_r _ [24, 25, 30, 31, 32, 33, 34] (by decide +kernel) (by decide +kernel)
set_option maxRecDepth 20000 in
theorem gX1_turned_X1_at : GoodIn wsX1_turned (wsV RX1 44 RX1 yX1_at wsX1_at) := goodIn_app (goodIn_of _ (by decide +kernel)) ggX1_turned_X1_at
set_option maxRecDepth 20000 in
theorem ggX1_turned_X1_isTrue : GoodIn wsX1_turned wsX1_isTrue := goodIn_r _ [28, 29] (by decide +kernel) (by decide +kernel)
set_option maxRecDepth 20000 in
theorem gX1_turned_X1_isTrue : GoodIn wsX1_turned (va_wsS RX1 61 yX1_isTrue wsX1_isTrue) := goodIn_app (goodIn_of _ (by decide +kernel)) ggX1_turned_X1_isTrue
theorem dX1_turned_0 : decode cX1_turned 0 = .ok (.aload_n 0, 1) := by decide +kernel
theorem dX1_turned_1 : decode cX1_turned 1 = .ok (.iload_n 1, 1) := by decide +kernel
theorem dX1_turned_2 : decode cX1_turned 2 = .ok (.invokestatic 30, 3) := by decide +kernel
theorem dX1_turned_5 : decode cX1_turned 5 = .ok (.ifCond .eq 14, 3) := by decide +kernel
theorem dX1_turned_8 : decode cX1_turned 8 = .ok (.iload_n 3, 1) := by decide +kernel
theorem dX1_turned_9 : decode cX1_turned 9 = .ok (.invokestatic 48, 3) := by decide +kernel
theorem dX1_turned_12 : decode cX1_turned 12 = .ok (.ifCond .eq 7, 3) := by decide +kernel
theorem dX1_turned_15 : decode cX1_turned 15 = .ok (.iconst 1, 1) := by decide +kernel
theorem dX1_turned_16 : decode cX1_turned 16 = .ok (.goto 4, 3) := by decide +kernel
theorem dX1_turned_19 : decode cX1_turned 19 = .ok (.iconst 0, 1) := by decide +kernel
theorem dX1_turned_20 : decode cX1_turned 20 = .ok (.iload_n 2, 1) := by decide +kernel
theorem dX1_turned_21 : decode cX1_turned 21 = .ok (.invokestatic 55, 3) := by decide +kernel
theorem dX1_turned_24 : decode cX1_turned 24 = .ok (.invokevirtual 40, 3) := by decide +kernel
theorem dX1_turned_27 : decode cX1_turned 27 = .ok (.ifCond .ne 5, 3) := by decide +kernel
theorem dX1_turned_30 : decode cX1_turned 30 = .ok (.iconst 0, 1) := by decide +kernel
theorem dX1_turned_31 : decode cX1_turned 31 = .ok (.ireturn, 1) := by decide +kernel
theorem dX1_turned_32 : decode cX1_turned 32 = .ok (.iconst 0, 1) := by decide +kernel
theorem dX1_turned_33 : decode cX1_turned 33 = .ok (.istore 4, 2) := by decide +kernel
theorem dX1_turned_35 : decode cX1_turned 35 = .ok (.iconst 0, 1) := by decide +kernel
theorem dX1_turned_36 : decode cX1_turned 36 = .ok (.istore 5, 2) := by decide +kernel
theorem dX1_turned_38 : decode cX1_turned 38 = .ok (.iload 5, 2) := by decide +kernel
theorem dX1_turned_40 : decode cX1_turned 40 = .ok (.bipush 12, 2) := by decide +kernel
theorem dX1_turned_42 : decode cX1_turned 42 = .ok (.if_icmp .ge 39, 3) := by decide +kernel
theorem dX1_turned_45 : decode cX1_turned 45 = .ok (.iload 4, 2) := by decide +kernel
theorem dX1_turned_47 : decode cX1_turned 47 = .ok (.iload_n 2, 1) := by decide +kernel
theorem dX1_turned_48 : decode cX1_turned 48 = .ok (.aload_n 0, 1) := by decide +kernel
theorem dX1_turned_49 : decode cX1_turned 49 = .ok (.iload_n 3, 1) := by decide +kernel
theorem dX1_turned_50 : decode cX1_turned 50 = .ok (.iload_n 1, 1) := by decide +kernel
theorem dX1_turned_51 : decode cX1_turned 51 = .ok (.invokevirtual 58, 3) := by decide +kernel
theorem dX1_turned_54 : decode cX1_turned 54 = .ok (.aload_n 0, 1) := by decide +kernel
theorem dX1_turned_55 : decode cX1_turned 55 = .ok (.iload_n 1, 1) := by decide +kernel
theorem dX1_turned_56 : decode cX1_turned 56 = .ok (.iload 5, 2) := by decide +kernel
theorem dX1_turned_58 : decode cX1_turned 58 = .ok (.invokevirtual 44, 3) := by decide +kernel
theorem dX1_turned_61 : decode cX1_turned 61 = .ok (.invokestatic 61, 3) := by decide +kernel
theorem dX1_turned_64 : decode cX1_turned 64 = .ok (.ifCond .eq 7, 3) := by decide +kernel
theorem dX1_turned_67 : decode cX1_turned 67 = .ok (.iconst 0, 1) := by decide +kernel
theorem dX1_turned_68 : decode cX1_turned 68 = .ok (.goto 4, 3) := by decide +kernel
theorem dX1_turned_71 : decode cX1_turned 71 = .ok (.iconst 1, 1) := by decide +kernel
theorem dX1_turned_72 : decode cX1_turned 72 = .ok (.iadd, 1) := by decide +kernel
theorem dX1_turned_73 : decode cX1_turned 73 = .ok (.istore 4, 2) := by decide +kernel
theorem dX1_turned_75 : decode cX1_turned 75 = .ok (.iinc 5 1, 3) := by decide +kernel
theorem dX1_turned_78 : decode cX1_turned 78 = .ok (.goto (-40), 3) := by decide +kernel
theorem dX1_turned_81 : decode cX1_turned 81 = .ok (.iload 4, 2) := by decide +kernel
theorem dX1_turned_83 : decode cX1_turned 83 = .ok (.ireturn, 1) := by decide +kernel
set_option maxRecDepth 20000 in
theorem ggX1_between_X1_isRow : GoodIn wsX1_between wsX1_isRow := goodIn_r _ [4] (by decide +kernel) (by decide +kernel)
set_option maxRecDepth 20000 in
theorem gX1_between_X1_isRow : GoodIn wsX1_between (va_wsS RX1 30 yX1_isRow wsX1_isRow) := goodIn_app (goodIn_of _ (by decide +kernel)) ggX1_between_X1_isRow
set_option maxRecDepth 20000 in
theorem ggX1_between_X1_isGate : GoodIn wsX1_between wsX1_isGate := goodIn_r _ [7] (by decide +kernel) (by decide +kernel)
set_option maxRecDepth 20000 in
theorem gX1_between_X1_isGate : GoodIn wsX1_between (va_wsS RX1 48 yX1_isGate wsX1_isGate) := goodIn_app (goodIn_of _ (by decide +kernel)) ggX1_between_X1_isGate
set_option maxRecDepth 20000 in
theorem ggX1_between_X1_may : GoodIn wsX1_between wsX1_may := goodIn_r _ [11, 12, 27, 28, 29, 30, 31] (by decide +kernel) (by decide +kernel)
set_option maxRecDepth 20000 in
theorem gX1_between_X1_may : GoodIn wsX1_between (wsV RX1 40 RX1 yX1_may wsX1_may) := goodIn_app (goodIn_of _ (by decide +kernel)) ggX1_between_X1_may
set_option maxRecDepth 20000 in
theorem ggX1_between_X1_levelFor : GoodIn wsX1_between wsX1_levelFor := goodIn_r _ [16, 17, 27, 28, 29, 30, 31] (by decide +kernel) (by decide +kernel)
set_option maxRecDepth 20000 in
theorem gX1_between_X1_levelFor : GoodIn wsX1_between (wsV RX1 58 RX1 yX1_levelFor wsX1_levelFor) := goodIn_app (goodIn_of _ (by decide +kernel)) ggX1_between_X1_levelFor
set_option maxRecDepth 20000 in
theorem ggX1_between_X1_at : GoodIn wsX1_between wsX1_at := goodIn_r _ [21, 22, 27, 28, 29, 30, 31] (by decide +kernel) (by decide +kernel)
set_option maxRecDepth 20000 in
theorem gX1_between_X1_at : GoodIn wsX1_between (wsV RX1 44 RX1 yX1_at wsX1_at) := goodIn_app (goodIn_of _ (by decide +kernel)) ggX1_between_X1_at
set_option maxRecDepth 20000 in
theorem ggX1_between_X1_isTrue : GoodIn wsX1_between wsX1_isTrue := goodIn_r _ [25, 26] (by decide +kernel) (by decide +kernel)
set_option maxRecDepth 20000 in
theorem gX1_between_X1_isTrue : GoodIn wsX1_between (va_wsS RX1 61 yX1_isTrue wsX1_isTrue) := goodIn_app (goodIn_of _ (by decide +kernel)) ggX1_between_X1_isTrue
theorem dX1_between_0 : decode cX1_between 0 = .ok (.aload_n 0, 1) := by decide +kernel
theorem dX1_between_1 : decode cX1_between 1 = .ok (.iload_n 1, 1) := by decide +kernel
theorem dX1_between_2 : decode cX1_between 2 = .ok (.invokestatic 30, 3) := by decide +kernel
theorem dX1_between_5 : decode cX1_between 5 = .ok (.ifCond .eq 21, 3) := by decide +kernel
theorem dX1_between_8 : decode cX1_between 8 = .ok (.iload_n 2, 1) := by decide +kernel
theorem dX1_between_9 : decode cX1_between 9 = .ok (.invokestatic 48, 3) := by decide +kernel
theorem dX1_between_12 : decode cX1_between 12 = .ok (.ifCond .eq 14, 3) := by decide +kernel
theorem dX1_between_15 : decode cX1_between 15 = .ok (.iload_n 3, 1) := by decide +kernel
theorem dX1_between_16 : decode cX1_between 16 = .ok (.invokestatic 48, 3) := by decide +kernel
theorem dX1_between_19 : decode cX1_between 19 = .ok (.ifCond .eq 7, 3) := by decide +kernel
theorem dX1_between_22 : decode cX1_between 22 = .ok (.iconst 1, 1) := by decide +kernel
theorem dX1_between_23 : decode cX1_between 23 = .ok (.goto 4, 3) := by decide +kernel
theorem dX1_between_26 : decode cX1_between 26 = .ok (.iconst 0, 1) := by decide +kernel
theorem dX1_between_27 : decode cX1_between 27 = .ok (.iconst 1, 1) := by decide +kernel
theorem dX1_between_28 : decode cX1_between 28 = .ok (.invokevirtual 40, 3) := by decide +kernel
theorem dX1_between_31 : decode cX1_between 31 = .ok (.ifCond .ne 5, 3) := by decide +kernel
theorem dX1_between_34 : decode cX1_between 34 = .ok (.iconst 0, 1) := by decide +kernel
theorem dX1_between_35 : decode cX1_between 35 = .ok (.ireturn, 1) := by decide +kernel
theorem dX1_between_36 : decode cX1_between 36 = .ok (.aload_n 0, 1) := by decide +kernel
theorem dX1_between_37 : decode cX1_between 37 = .ok (.iload_n 2, 1) := by decide +kernel
theorem dX1_between_38 : decode cX1_between 38 = .ok (.iload_n 1, 1) := by decide +kernel
theorem dX1_between_39 : decode cX1_between 39 = .ok (.invokevirtual 58, 3) := by decide +kernel
theorem dX1_between_42 : decode cX1_between 42 = .ok (.istore 4, 2) := by decide +kernel
theorem dX1_between_44 : decode cX1_between 44 = .ok (.aload_n 0, 1) := by decide +kernel
theorem dX1_between_45 : decode cX1_between 45 = .ok (.iload_n 3, 1) := by decide +kernel
theorem dX1_between_46 : decode cX1_between 46 = .ok (.iload_n 1, 1) := by decide +kernel
theorem dX1_between_47 : decode cX1_between 47 = .ok (.invokevirtual 58, 3) := by decide +kernel
theorem dX1_between_50 : decode cX1_between 50 = .ok (.istore 5, 2) := by decide +kernel
theorem dX1_between_52 : decode cX1_between 52 = .ok (.iconst 0, 1) := by decide +kernel
theorem dX1_between_53 : decode cX1_between 53 = .ok (.istore 6, 2) := by decide +kernel
theorem dX1_between_55 : decode cX1_between 55 = .ok (.iconst 0, 1) := by decide +kernel
theorem dX1_between_56 : decode cX1_between 56 = .ok (.istore 7, 2) := by decide +kernel
theorem dX1_between_58 : decode cX1_between 58 = .ok (.iconst 0, 1) := by decide +kernel
theorem dX1_between_59 : decode cX1_between 59 = .ok (.istore 8, 2) := by decide +kernel
theorem dX1_between_61 : decode cX1_between 61 = .ok (.iload 8, 2) := by decide +kernel
theorem dX1_between_63 : decode cX1_between 63 = .ok (.bipush 12, 2) := by decide +kernel
theorem dX1_between_65 : decode cX1_between 65 = .ok (.if_icmp .ge 82, 3) := by decide +kernel
theorem dX1_between_68 : decode cX1_between 68 = .ok (.aload_n 0, 1) := by decide +kernel
theorem dX1_between_69 : decode cX1_between 69 = .ok (.iload_n 1, 1) := by decide +kernel
theorem dX1_between_70 : decode cX1_between 70 = .ok (.iload 8, 2) := by decide +kernel
theorem dX1_between_72 : decode cX1_between 72 = .ok (.invokevirtual 44, 3) := by decide +kernel
theorem dX1_between_75 : decode cX1_between 75 = .ok (.istore 9, 2) := by decide +kernel
theorem dX1_between_77 : decode cX1_between 77 = .ok (.iload 6, 2) := by decide +kernel
theorem dX1_between_79 : decode cX1_between 79 = .ok (.iconst 3, 1) := by decide +kernel
theorem dX1_between_80 : decode cX1_between 80 = .ok (.iload 9, 2) := by decide +kernel
theorem dX1_between_82 : decode cX1_between 82 = .ok (.iload 4, 2) := by decide +kernel
theorem dX1_between_84 : decode cX1_between 84 = .ok (.invokestatic 61, 3) := by decide +kernel
theorem dX1_between_87 : decode cX1_between 87 = .ok (.ifCond .eq 18, 3) := by decide +kernel
theorem dX1_between_90 : decode cX1_between 90 = .ok (.iconst 1, 1) := by decide +kernel
theorem dX1_between_91 : decode cX1_between 91 = .ok (.iload 9, 2) := by decide +kernel
theorem dX1_between_93 : decode cX1_between 93 = .ok (.iload 5, 2) := by decide +kernel
theorem dX1_between_95 : decode cX1_between 95 = .ok (.invokestatic 61, 3) := by decide +kernel
theorem dX1_between_98 : decode cX1_between 98 = .ok (.ifCond .eq 7, 3) := by decide +kernel
theorem dX1_between_101 : decode cX1_between 101 = .ok (.iconst 1, 1) := by decide +kernel
theorem dX1_between_102 : decode cX1_between 102 = .ok (.goto 4, 3) := by decide +kernel
theorem dX1_between_105 : decode cX1_between 105 = .ok (.iconst 0, 1) := by decide +kernel
theorem dX1_between_106 : decode cX1_between 106 = .ok (.iadd, 1) := by decide +kernel
theorem dX1_between_107 : decode cX1_between 107 = .ok (.istore 6, 2) := by decide +kernel
theorem dX1_between_109 : decode cX1_between 109 = .ok (.iload 7, 2) := by decide +kernel
theorem dX1_between_111 : decode cX1_between 111 = .ok (.iconst 0, 1) := by decide +kernel
theorem dX1_between_112 : decode cX1_between 112 = .ok (.iload 9, 2) := by decide +kernel
theorem dX1_between_114 : decode cX1_between 114 = .ok (.iload 4, 2) := by decide +kernel
theorem dX1_between_116 : decode cX1_between 116 = .ok (.invokestatic 61, 3) := by decide +kernel
theorem dX1_between_119 : decode cX1_between 119 = .ok (.ifCond .ne 14, 3) := by decide +kernel
theorem dX1_between_122 : decode cX1_between 122 = .ok (.iconst 2, 1) := by decide +kernel
theorem dX1_between_123 : decode cX1_between 123 = .ok (.iload 9, 2) := by decide +kernel
theorem dX1_between_125 : decode cX1_between 125 = .ok (.iload 5, 2) := by decide +kernel
theorem dX1_between_127 : decode cX1_between 127 = .ok (.invokestatic 61, 3) := by decide +kernel
theorem dX1_between_130 : decode cX1_between 130 = .ok (.ifCond .eq 7, 3) := by decide +kernel
theorem dX1_between_133 : decode cX1_between 133 = .ok (.iconst 1, 1) := by decide +kernel
theorem dX1_between_134 : decode cX1_between 134 = .ok (.goto 4, 3) := by decide +kernel
theorem dX1_between_137 : decode cX1_between 137 = .ok (.iconst 0, 1) := by decide +kernel
theorem dX1_between_138 : decode cX1_between 138 = .ok (.iadd, 1) := by decide +kernel
theorem dX1_between_139 : decode cX1_between 139 = .ok (.istore 7, 2) := by decide +kernel
theorem dX1_between_141 : decode cX1_between 141 = .ok (.iinc 8 1, 3) := by decide +kernel
theorem dX1_between_144 : decode cX1_between 144 = .ok (.goto (-83), 3) := by decide +kernel
theorem dX1_between_147 : decode cX1_between 147 = .ok (.bipush 16, 2) := by decide +kernel
theorem dX1_between_149 : decode cX1_between 149 = .ok (.iload 6, 2) := by decide +kernel
theorem dX1_between_151 : decode cX1_between 151 = .ok (.imul, 1) := by decide +kernel
theorem dX1_between_152 : decode cX1_between 152 = .ok (.iload 7, 2) := by decide +kernel
theorem dX1_between_154 : decode cX1_between 154 = .ok (.iadd, 1) := by decide +kernel
theorem dX1_between_155 : decode cX1_between 155 = .ok (.ireturn, 1) := by decide +kernel
set_option maxRecDepth 20000 in
theorem ggX1_must_X1_isRow : GoodIn wsX1_must wsX1_isRow := goodIn_r _ [5] (by decide +kernel) (by decide +kernel)
set_option maxRecDepth 20000 in
theorem gX1_must_X1_isRow : GoodIn wsX1_must (va_wsS RX1 30 yX1_isRow wsX1_isRow) := goodIn_app (goodIn_of _ (by decide +kernel)) ggX1_must_X1_isRow
set_option maxRecDepth 20000 in
theorem ggX1_must_X1_isPlace : GoodIn wsX1_must wsX1_isPlace := goodIn_r _ [8] (by decide +kernel) (by decide +kernel)
set_option maxRecDepth 20000 in
theorem gX1_must_X1_isPlace : GoodIn wsX1_must (va_wsS RX1 34 yX1_isPlace wsX1_isPlace) := goodIn_app (goodIn_of _ (by decide +kernel)) ggX1_must_X1_isPlace
set_option maxRecDepth 20000 in
theorem ggX1_must_X1_isGate : GoodIn wsX1_must wsX1_isGate := goodIn_r _ [11] (by decide +kernel) (by decide +kernel)
set_option maxRecDepth 20000 in
theorem gX1_must_X1_isGate : GoodIn wsX1_must (va_wsS RX1 48 yX1_isGate wsX1_isGate) := goodIn_app (goodIn_of _ (by decide +kernel)) ggX1_must_X1_isGate
set_option maxRecDepth 20000 in
theorem ggX1_must_X1_isSign : GoodIn wsX1_must wsX1_isSign := goodIn_r _ [14] (by decide +kernel) (by decide +kernel)
set_option maxRecDepth 20000 in
theorem gX1_must_X1_isSign : GoodIn wsX1_must (va_wsS RX1 55 yX1_isSign wsX1_isSign) := goodIn_app (goodIn_of _ (by decide +kernel)) ggX1_must_X1_isSign
set_option maxRecDepth 20000 in
theorem ggX1_must_X1_may : GoodIn wsX1_must wsX1_may := goodIn_r _ [18, 1, 33, 34, 35, 36, 37] (by decide +kernel) (by decide +kernel)
set_option maxRecDepth 20000 in
theorem gX1_must_X1_may : GoodIn wsX1_must (wsV RX1 40 RX1 yX1_may wsX1_may) := goodIn_app (goodIn_of _ (by decide +kernel)) ggX1_must_X1_may
set_option maxRecDepth 20000 in
theorem ggX1_must_X1_at : GoodIn wsX1_must wsX1_at := goodIn_r _ [22, 23, 33, 34, 35, 36, 37] (by decide +kernel) (by decide +kernel)
set_option maxRecDepth 20000 in
theorem gX1_must_X1_at : GoodIn wsX1_must (wsV RX1 44 RX1 yX1_at wsX1_at) := goodIn_app (goodIn_of _ (by decide +kernel)) ggX1_must_X1_at
set_option maxRecDepth 20000 in
theorem ggX1_must_X1_levelFor : GoodIn wsX1_must wsX1_levelFor := goodIn_r _ [27, 28, 33, 34, 35, 36, 37] (by decide +kernel) (by decide +kernel)
set_option maxRecDepth 20000 in
theorem gX1_must_X1_levelFor : GoodIn wsX1_must (wsV RX1 58 RX1 yX1_levelFor wsX1_levelFor) := goodIn_app (goodIn_of _ (by decide +kernel)) ggX1_must_X1_levelFor
set_option maxRecDepth 20000 in
theorem ggX1_must_X1_isTrue : GoodIn wsX1_must wsX1_isTrue := goodIn_r _ [31, 32] (by decide +kernel) (by decide +kernel)
set_option maxRecDepth 20000 in
theorem gX1_must_X1_isTrue : GoodIn wsX1_must (va_wsS RX1 61 yX1_isTrue wsX1_isTrue) := goodIn_app (goodIn_of _ (by decide +kernel)) ggX1_must_X1_isTrue
theorem dX1_must_0 : decode cX1_must 0 = .ok (.aload_n 0, 1) := by decide +kernel
theorem dX1_must_1 : decode cX1_must 1 = .ok (.iload_n 1, 1) := by decide +kernel
theorem dX1_must_2 : decode cX1_must 2 = .ok (.invokestatic 30, 3) := by decide +kernel
theorem dX1_must_5 : decode cX1_must 5 = .ok (.ifCond .eq 22, 3) := by decide +kernel
theorem dX1_must_8 : decode cX1_must 8 = .ok (.iload_n 2, 1) := by decide +kernel
theorem dX1_must_9 : decode cX1_must 9 = .ok (.invokestatic 34, 3) := by decide +kernel
theorem dX1_must_12 : decode cX1_must 12 = .ok (.ifCond .eq 15, 3) := by decide +kernel
theorem dX1_must_15 : decode cX1_must 15 = .ok (.iload 4, 2) := by decide +kernel
theorem dX1_must_17 : decode cX1_must 17 = .ok (.invokestatic 48, 3) := by decide +kernel
theorem dX1_must_20 : decode cX1_must 20 = .ok (.ifCond .eq 7, 3) := by decide +kernel
theorem dX1_must_23 : decode cX1_must 23 = .ok (.iconst 1, 1) := by decide +kernel
theorem dX1_must_24 : decode cX1_must 24 = .ok (.goto 4, 3) := by decide +kernel
theorem dX1_must_27 : decode cX1_must 27 = .ok (.iconst 0, 1) := by decide +kernel
theorem dX1_must_28 : decode cX1_must 28 = .ok (.iload_n 3, 1) := by decide +kernel
theorem dX1_must_29 : decode cX1_must 29 = .ok (.invokestatic 55, 3) := by decide +kernel
theorem dX1_must_32 : decode cX1_must 32 = .ok (.invokevirtual 40, 3) := by decide +kernel
theorem dX1_must_35 : decode cX1_must 35 = .ok (.ifCond .ne 5, 3) := by decide +kernel
theorem dX1_must_38 : decode cX1_must 38 = .ok (.iconst 0, 1) := by decide +kernel
theorem dX1_must_39 : decode cX1_must 39 = .ok (.ireturn, 1) := by decide +kernel
theorem dX1_must_40 : decode cX1_must 40 = .ok (.iload_n 3, 1) := by decide +kernel
theorem dX1_must_41 : decode cX1_must 41 = .ok (.aload_n 0, 1) := by decide +kernel
theorem dX1_must_42 : decode cX1_must 42 = .ok (.iload_n 1, 1) := by decide +kernel
theorem dX1_must_43 : decode cX1_must 43 = .ok (.iload_n 2, 1) := by decide +kernel
theorem dX1_must_44 : decode cX1_must 44 = .ok (.invokevirtual 44, 3) := by decide +kernel
theorem dX1_must_47 : decode cX1_must 47 = .ok (.aload_n 0, 1) := by decide +kernel
theorem dX1_must_48 : decode cX1_must 48 = .ok (.iload 4, 2) := by decide +kernel
theorem dX1_must_50 : decode cX1_must 50 = .ok (.iload_n 1, 1) := by decide +kernel
theorem dX1_must_51 : decode cX1_must 51 = .ok (.invokevirtual 58, 3) := by decide +kernel
theorem dX1_must_54 : decode cX1_must 54 = .ok (.invokestatic 61, 3) := by decide +kernel
theorem dX1_must_57 : decode cX1_must 57 = .ok (.ifCond .ne 10, 3) := by decide +kernel
theorem dX1_must_60 : decode cX1_must 60 = .ok (.aload_n 0, 1) := by decide +kernel
theorem dX1_must_61 : decode cX1_must 61 = .ok (.iconst 3, 1) := by decide +kernel
theorem dX1_must_62 : decode cX1_must 62 = .ok (.putfield 26, 3) := by decide +kernel
theorem dX1_must_65 : decode cX1_must 65 = .ok (.iconst 0, 1) := by decide +kernel
theorem dX1_must_66 : decode cX1_must 66 = .ok (.ireturn, 1) := by decide +kernel
theorem dX1_must_67 : decode cX1_must 67 = .ok (.aload_n 0, 1) := by decide +kernel
theorem dX1_must_68 : decode cX1_must 68 = .ok (.iload_n 1, 1) := by decide +kernel
theorem dX1_must_69 : decode cX1_must 69 = .ok (.iload_n 2, 1) := by decide +kernel
theorem dX1_must_70 : decode cX1_must 70 = .ok (.invokevirtual 44, 3) := by decide +kernel
theorem dX1_must_73 : decode cX1_must 73 = .ok (.ireturn, 1) := by decide +kernel
set_option maxRecDepth 20000 in
theorem ggX1_watch_X1_isGate : GoodIn wsX1_watch wsX1_isGate := goodIn_r _ [5] (by decide +kernel) (by decide +kernel)
set_option maxRecDepth 20000 in
theorem gX1_watch_X1_isGate : GoodIn wsX1_watch (va_wsS RX1 48 yX1_isGate wsX1_isGate) := goodIn_app (goodIn_of _ (by decide +kernel)) ggX1_watch_X1_isGate
set_option maxRecDepth 20000 in
theorem ggX1_watch_X1_isRow : GoodIn wsX1_watch wsX1_isRow := goodIn_r _ [8] (by decide +kernel) (by decide +kernel)
set_option maxRecDepth 20000 in
theorem gX1_watch_X1_isRow : GoodIn wsX1_watch (va_wsS RX1 30 yX1_isRow wsX1_isRow) := goodIn_app (goodIn_of _ (by decide +kernel)) ggX1_watch_X1_isRow
set_option maxRecDepth 20000 in
theorem ggX1_watch_X1_may : GoodIn wsX1_watch wsX1_may := goodIn_r _ [12, 13, 28, 29, 30, 31, 32] (by decide +kernel) (by decide +kernel)
set_option maxRecDepth 20000 in
theorem gX1_watch_X1_may : GoodIn wsX1_watch (wsV RX1 40 RX1 yX1_may wsX1_may) := goodIn_app (goodIn_of _ (by decide +kernel)) ggX1_watch_X1_may
set_option maxRecDepth 20000 in
theorem ggX1_watch_X1_at : GoodIn wsX1_watch wsX1_at := goodIn_r _ [17, 18, 28, 29, 30, 31, 32] (by decide +kernel) (by decide +kernel)
set_option maxRecDepth 20000 in
theorem gX1_watch_X1_at : GoodIn wsX1_watch (wsV RX1 44 RX1 yX1_at wsX1_at) := goodIn_app (goodIn_of _ (by decide +kernel)) ggX1_watch_X1_at
set_option maxRecDepth 20000 in
theorem ggX1_watch_X1_levelFor : GoodIn wsX1_watch wsX1_levelFor := goodIn_r _ [22, 23, 28, 29, 30, 31, 32] (by decide +kernel) (by decide +kernel)
set_option maxRecDepth 20000 in
theorem gX1_watch_X1_levelFor : GoodIn wsX1_watch (wsV RX1 58 RX1 yX1_levelFor wsX1_levelFor) := goodIn_app (goodIn_of _ (by decide +kernel)) ggX1_watch_X1_levelFor
set_option maxRecDepth 20000 in
theorem ggX1_watch_X1_isTrue : GoodIn wsX1_watch wsX1_isTrue := goodIn_r _ [26, 27] (by decide +kernel) (by decide +kernel)
set_option maxRecDepth 20000 in
theorem gX1_watch_X1_isTrue : GoodIn wsX1_watch (va_wsS RX1 61 yX1_isTrue wsX1_isTrue) := goodIn_app (goodIn_of _ (by decide +kernel)) ggX1_watch_X1_isTrue
theorem dX1_watch_0 : decode cX1_watch 0 = .ok (.aload_n 0, 1) := by decide +kernel
theorem dX1_watch_1 : decode cX1_watch 1 = .ok (.iload_n 1, 1) := by decide +kernel
theorem dX1_watch_2 : decode cX1_watch 2 = .ok (.invokestatic 48, 3) := by decide +kernel
theorem dX1_watch_5 : decode cX1_watch 5 = .ok (.ifCond .eq 14, 3) := by decide +kernel
theorem dX1_watch_8 : decode cX1_watch 8 = .ok (.iload_n 2, 1) := by decide +kernel
theorem dX1_watch_9 : decode cX1_watch 9 = .ok (.invokestatic 30, 3) := by decide +kernel
theorem dX1_watch_12 : decode cX1_watch 12 = .ok (.ifCond .eq 7, 3) := by decide +kernel
theorem dX1_watch_15 : decode cX1_watch 15 = .ok (.iconst 1, 1) := by decide +kernel
theorem dX1_watch_16 : decode cX1_watch 16 = .ok (.goto 4, 3) := by decide +kernel
theorem dX1_watch_19 : decode cX1_watch 19 = .ok (.iconst 0, 1) := by decide +kernel
theorem dX1_watch_20 : decode cX1_watch 20 = .ok (.iconst 1, 1) := by decide +kernel
theorem dX1_watch_21 : decode cX1_watch 21 = .ok (.invokevirtual 40, 3) := by decide +kernel
theorem dX1_watch_24 : decode cX1_watch 24 = .ok (.ifCond .ne 5, 3) := by decide +kernel
theorem dX1_watch_27 : decode cX1_watch 27 = .ok (.iconst 0, 1) := by decide +kernel
theorem dX1_watch_28 : decode cX1_watch 28 = .ok (.ireturn, 1) := by decide +kernel
theorem dX1_watch_29 : decode cX1_watch 29 = .ok (.iconst 0, 1) := by decide +kernel
theorem dX1_watch_30 : decode cX1_watch 30 = .ok (.istore 4, 2) := by decide +kernel
theorem dX1_watch_32 : decode cX1_watch 32 = .ok (.iconst 0, 1) := by decide +kernel
theorem dX1_watch_33 : decode cX1_watch 33 = .ok (.istore 5, 2) := by decide +kernel
theorem dX1_watch_35 : decode cX1_watch 35 = .ok (.iload 5, 2) := by decide +kernel
theorem dX1_watch_37 : decode cX1_watch 37 = .ok (.bipush 12, 2) := by decide +kernel
theorem dX1_watch_39 : decode cX1_watch 39 = .ok (.if_icmp .ge 88, 3) := by decide +kernel
theorem dX1_watch_42 : decode cX1_watch 42 = .ok (.aload_n 0, 1) := by decide +kernel
theorem dX1_watch_43 : decode cX1_watch 43 = .ok (.iload_n 2, 1) := by decide +kernel
theorem dX1_watch_44 : decode cX1_watch 44 = .ok (.iload 5, 2) := by decide +kernel
theorem dX1_watch_46 : decode cX1_watch 46 = .ok (.invokevirtual 44, 3) := by decide +kernel
theorem dX1_watch_49 : decode cX1_watch 49 = .ok (.istore 6, 2) := by decide +kernel
theorem dX1_watch_51 : decode cX1_watch 51 = .ok (.aload_n 0, 1) := by decide +kernel
theorem dX1_watch_52 : decode cX1_watch 52 = .ok (.iload_n 1, 1) := by decide +kernel
theorem dX1_watch_53 : decode cX1_watch 53 = .ok (.iload_n 2, 1) := by decide +kernel
theorem dX1_watch_54 : decode cX1_watch 54 = .ok (.invokevirtual 58, 3) := by decide +kernel
theorem dX1_watch_57 : decode cX1_watch 57 = .ok (.istore 7, 2) := by decide +kernel
theorem dX1_watch_59 : decode cX1_watch 59 = .ok (.iload_n 3, 1) := by decide +kernel
theorem dX1_watch_60 : decode cX1_watch 60 = .ok (.ifCond .eq 22, 3) := by decide +kernel
theorem dX1_watch_63 : decode cX1_watch 63 = .ok (.iconst 0, 1) := by decide +kernel
theorem dX1_watch_64 : decode cX1_watch 64 = .ok (.iload 6, 2) := by decide +kernel
theorem dX1_watch_66 : decode cX1_watch 66 = .ok (.iload 7, 2) := by decide +kernel
theorem dX1_watch_68 : decode cX1_watch 68 = .ok (.invokestatic 61, 3) := by decide +kernel
theorem dX1_watch_71 : decode cX1_watch 71 = .ok (.ifCond .ne 7, 3) := by decide +kernel
theorem dX1_watch_74 : decode cX1_watch 74 = .ok (.iconst 1, 1) := by decide +kernel
theorem dX1_watch_75 : decode cX1_watch 75 = .ok (.goto 15, 3) := by decide +kernel
theorem dX1_watch_78 : decode cX1_watch 78 = .ok (.iconst 0, 1) := by decide +kernel
theorem dX1_watch_79 : decode cX1_watch 79 = .ok (.goto 11, 3) := by decide +kernel
theorem dX1_watch_82 : decode cX1_watch 82 = .ok (.iconst 3, 1) := by decide +kernel
theorem dX1_watch_83 : decode cX1_watch 83 = .ok (.iload 6, 2) := by decide +kernel
theorem dX1_watch_85 : decode cX1_watch 85 = .ok (.iload 7, 2) := by decide +kernel
theorem dX1_watch_87 : decode cX1_watch 87 = .ok (.invokestatic 61, 3) := by decide +kernel
theorem dX1_watch_90 : decode cX1_watch 90 = .ok (.istore 8, 2) := by decide +kernel
theorem dX1_watch_92 : decode cX1_watch 92 = .ok (.iload 4, 2) := by decide +kernel
theorem dX1_watch_94 : decode cX1_watch 94 = .ok (.iload 8, 2) := by decide +kernel
theorem dX1_watch_96 : decode cX1_watch 96 = .ok (.aload_n 0, 1) := by decide +kernel
theorem dX1_watch_97 : decode cX1_watch 97 = .ok (.getfield 16, 3) := by decide +kernel
theorem dX1_watch_100 : decode cX1_watch 100 = .ok (.iload_n 1, 1) := by decide +kernel
theorem dX1_watch_101 : decode cX1_watch 101 = .ok (.baload, 1) := by decide +kernel
theorem dX1_watch_102 : decode cX1_watch 102 = .ok (.if_icmp .eq 7, 3) := by decide +kernel
theorem dX1_watch_105 : decode cX1_watch 105 = .ok (.iconst 1, 1) := by decide +kernel
theorem dX1_watch_106 : decode cX1_watch 106 = .ok (.goto 4, 3) := by decide +kernel
theorem dX1_watch_109 : decode cX1_watch 109 = .ok (.iconst 0, 1) := by decide +kernel
theorem dX1_watch_110 : decode cX1_watch 110 = .ok (.iadd, 1) := by decide +kernel
theorem dX1_watch_111 : decode cX1_watch 111 = .ok (.istore 4, 2) := by decide +kernel
theorem dX1_watch_113 : decode cX1_watch 113 = .ok (.aload_n 0, 1) := by decide +kernel
theorem dX1_watch_114 : decode cX1_watch 114 = .ok (.getfield 16, 3) := by decide +kernel
theorem dX1_watch_117 : decode cX1_watch 117 = .ok (.iload_n 1, 1) := by decide +kernel
theorem dX1_watch_118 : decode cX1_watch 118 = .ok (.iload 8, 2) := by decide +kernel
theorem dX1_watch_120 : decode cX1_watch 120 = .ok (.bastore, 1) := by decide +kernel
theorem dX1_watch_121 : decode cX1_watch 121 = .ok (.iinc 5 1, 3) := by decide +kernel
theorem dX1_watch_124 : decode cX1_watch 124 = .ok (.goto (-89), 3) := by decide +kernel
theorem dX1_watch_127 : decode cX1_watch 127 = .ok (.iload 4, 2) := by decide +kernel
theorem dX1_watch_129 : decode cX1_watch 129 = .ok (.ireturn, 1) := by decide +kernel
set_option maxRecDepth 20000 in
theorem ggX1_isOpen_X1_isGate : GoodIn wsX1_isOpen wsX1_isGate := goodIn_r _ [5] (by decide +kernel) (by decide +kernel)
set_option maxRecDepth 20000 in
theorem gX1_isOpen_X1_isGate : GoodIn wsX1_isOpen (va_wsS RX1 48 yX1_isGate wsX1_isGate) := goodIn_app (goodIn_of _ (by decide +kernel)) ggX1_isOpen_X1_isGate
set_option maxRecDepth 20000 in
theorem ggX1_isOpen_X1_may : GoodIn wsX1_isOpen wsX1_may := goodIn_r _ [9, 10, 11, 12, 13, 14, 15] (by decide +kernel) (by decide +kernel)
set_option maxRecDepth 20000 in
theorem gX1_isOpen_X1_may : GoodIn wsX1_isOpen (wsV RX1 40 RX1 yX1_may wsX1_may) := goodIn_app (goodIn_of _ (by decide +kernel)) ggX1_isOpen_X1_may
theorem dX1_isOpen_0 : decode cX1_isOpen 0 = .ok (.aload_n 0, 1) := by decide +kernel
theorem dX1_isOpen_1 : decode cX1_isOpen 1 = .ok (.iload_n 1, 1) := by decide +kernel
theorem dX1_isOpen_2 : decode cX1_isOpen 2 = .ok (.invokestatic 48, 3) := by decide +kernel
theorem dX1_isOpen_5 : decode cX1_isOpen 5 = .ok (.iconst 1, 1) := by decide +kernel
theorem dX1_isOpen_6 : decode cX1_isOpen 6 = .ok (.invokevirtual 40, 3) := by decide +kernel
theorem dX1_isOpen_9 : decode cX1_isOpen 9 = .ok (.ifCond .ne 5, 3) := by decide +kernel
theorem dX1_isOpen_12 : decode cX1_isOpen 12 = .ok (.iconst 0, 1) := by decide +kernel
theorem dX1_isOpen_13 : decode cX1_isOpen 13 = .ok (.ireturn, 1) := by decide +kernel
theorem dX1_isOpen_14 : decode cX1_isOpen 14 = .ok (.aload_n 0, 1) := by decide +kernel
theorem dX1_isOpen_15 : decode cX1_isOpen 15 = .ok (.getfield 16, 3) := by decide +kernel
theorem dX1_isOpen_18 : decode cX1_isOpen 18 = .ok (.iload_n 1, 1) := by decide +kernel
theorem dX1_isOpen_19 : decode cX1_isOpen 19 = .ok (.baload, 1) := by decide +kernel
theorem dX1_isOpen_20 : decode cX1_isOpen 20 = .ok (.ireturn, 1) := by decide +kernel
set_option maxRecDepth 20000 in
theorem ggX1_goOn_X1_isRow : GoodIn wsX1_goOn wsX1_isRow := goodIn_r _ [4] (by decide +kernel) (by decide +kernel)
set_option maxRecDepth 20000 in
theorem gX1_goOn_X1_isRow : GoodIn wsX1_goOn (va_wsS RX1 30 yX1_isRow wsX1_isRow) := goodIn_app (goodIn_of _ (by decide +kernel)) ggX1_goOn_X1_isRow
set_option maxRecDepth 20000 in
theorem ggX1_goOn_X1_isPlace : GoodIn wsX1_goOn wsX1_isPlace := goodIn_r _ [7] (by decide +kernel) (by decide +kernel)
set_option maxRecDepth 20000 in
theorem gX1_goOn_X1_isPlace : GoodIn wsX1_goOn (va_wsS RX1 34 yX1_isPlace wsX1_isPlace) := goodIn_app (goodIn_of _ (by decide +kernel)) ggX1_goOn_X1_isPlace
set_option maxRecDepth 20000 in
theorem ggX1_goOn_X1_isSign : GoodIn wsX1_goOn wsX1_isSign := goodIn_r _ [10] (by decide +kernel) (by decide +kernel)
set_option maxRecDepth 20000 in
theorem gX1_goOn_X1_isSign : GoodIn wsX1_goOn (va_wsS RX1 55 yX1_isSign wsX1_isSign) := goodIn_app (goodIn_of _ (by decide +kernel)) ggX1_goOn_X1_isSign
set_option maxRecDepth 20000 in
theorem ggX1_goOn_X1_may : GoodIn wsX1_goOn wsX1_may := goodIn_r _ [14, 15, 25, 26, 27, 28, 29] (by decide +kernel) (by decide +kernel)
set_option maxRecDepth 20000 in
theorem gX1_goOn_X1_may : GoodIn wsX1_goOn (wsV RX1 40 RX1 yX1_may wsX1_may) := goodIn_app (goodIn_of _ (by decide +kernel)) ggX1_goOn_X1_may
set_option maxRecDepth 20000 in
theorem ggX1_goOn_X1_at : GoodIn wsX1_goOn wsX1_at := goodIn_r _ [19, 20, 25, 26, 27, 28, 29] (by decide +kernel) (by decide +kernel)
set_option maxRecDepth 20000 in
theorem gX1_goOn_X1_at : GoodIn wsX1_goOn (wsV RX1 44 RX1 yX1_at wsX1_at) := goodIn_app (goodIn_of _ (by decide +kernel)) ggX1_goOn_X1_at
set_option maxRecDepth 20000 in
theorem ggX1_goOn_X1_isTrue : GoodIn wsX1_goOn wsX1_isTrue := goodIn_r _ [23, 24] (by decide +kernel) (by decide +kernel)
set_option maxRecDepth 20000 in
theorem gX1_goOn_X1_isTrue : GoodIn wsX1_goOn (va_wsS RX1 61 yX1_isTrue wsX1_isTrue) := goodIn_app (goodIn_of _ (by decide +kernel)) ggX1_goOn_X1_isTrue
theorem dX1_goOn_0 : decode cX1_goOn 0 = .ok (.aload_n 0, 1) := by decide +kernel
theorem dX1_goOn_1 : decode cX1_goOn 1 = .ok (.iload_n 1, 1) := by decide +kernel
theorem dX1_goOn_2 : decode cX1_goOn 2 = .ok (.invokestatic 30, 3) := by decide +kernel
theorem dX1_goOn_5 : decode cX1_goOn 5 = .ok (.ifCond .eq 14, 3) := by decide +kernel
theorem dX1_goOn_8 : decode cX1_goOn 8 = .ok (.iload_n 2, 1) := by decide +kernel
theorem dX1_goOn_9 : decode cX1_goOn 9 = .ok (.invokestatic 34, 3) := by decide +kernel
theorem dX1_goOn_12 : decode cX1_goOn 12 = .ok (.ifCond .eq 7, 3) := by decide +kernel
theorem dX1_goOn_15 : decode cX1_goOn 15 = .ok (.iconst 1, 1) := by decide +kernel
theorem dX1_goOn_16 : decode cX1_goOn 16 = .ok (.goto 4, 3) := by decide +kernel
theorem dX1_goOn_19 : decode cX1_goOn 19 = .ok (.iconst 0, 1) := by decide +kernel
theorem dX1_goOn_20 : decode cX1_goOn 20 = .ok (.iload_n 3, 1) := by decide +kernel
theorem dX1_goOn_21 : decode cX1_goOn 21 = .ok (.invokestatic 55, 3) := by decide +kernel
theorem dX1_goOn_24 : decode cX1_goOn 24 = .ok (.invokevirtual 40, 3) := by decide +kernel
theorem dX1_goOn_27 : decode cX1_goOn 27 = .ok (.ifCond .ne 5, 3) := by decide +kernel
theorem dX1_goOn_30 : decode cX1_goOn 30 = .ok (.iconst 0, 1) := by decide +kernel
theorem dX1_goOn_31 : decode cX1_goOn 31 = .ok (.ireturn, 1) := by decide +kernel
theorem dX1_goOn_32 : decode cX1_goOn 32 = .ok (.iload_n 2, 1) := by decide +kernel
theorem dX1_goOn_33 : decode cX1_goOn 33 = .ok (.istore 5, 2) := by decide +kernel
theorem dX1_goOn_35 : decode cX1_goOn 35 = .ok (.iload 5, 2) := by decide +kernel
theorem dX1_goOn_37 : decode cX1_goOn 37 = .ok (.iconst 1, 1) := by decide +kernel
theorem dX1_goOn_38 : decode cX1_goOn 38 = .ok (.iadd, 1) := by decide +kernel
theorem dX1_goOn_39 : decode cX1_goOn 39 = .ok (.bipush 12, 2) := by decide +kernel
theorem dX1_goOn_41 : decode cX1_goOn 41 = .ok (.if_icmp .ge 34, 3) := by decide +kernel
theorem dX1_goOn_44 : decode cX1_goOn 44 = .ok (.iload_n 3, 1) := by decide +kernel
theorem dX1_goOn_45 : decode cX1_goOn 45 = .ok (.aload_n 0, 1) := by decide +kernel
theorem dX1_goOn_46 : decode cX1_goOn 46 = .ok (.iload_n 1, 1) := by decide +kernel
theorem dX1_goOn_47 : decode cX1_goOn 47 = .ok (.iload 5, 2) := by decide +kernel
theorem dX1_goOn_49 : decode cX1_goOn 49 = .ok (.invokevirtual 44, 3) := by decide +kernel
theorem dX1_goOn_52 : decode cX1_goOn 52 = .ok (.aload_n 0, 1) := by decide +kernel
theorem dX1_goOn_53 : decode cX1_goOn 53 = .ok (.iload_n 1, 1) := by decide +kernel
theorem dX1_goOn_54 : decode cX1_goOn 54 = .ok (.iload 5, 2) := by decide +kernel
theorem dX1_goOn_56 : decode cX1_goOn 56 = .ok (.iconst 1, 1) := by decide +kernel
theorem dX1_goOn_57 : decode cX1_goOn 57 = .ok (.iadd, 1) := by decide +kernel
theorem dX1_goOn_58 : decode cX1_goOn 58 = .ok (.invokevirtual 44, 3) := by decide +kernel
theorem dX1_goOn_61 : decode cX1_goOn 61 = .ok (.invokestatic 61, 3) := by decide +kernel
theorem dX1_goOn_64 : decode cX1_goOn 64 = .ok (.iload 4, 2) := by decide +kernel
theorem dX1_goOn_66 : decode cX1_goOn 66 = .ok (.if_icmp .ne 9, 3) := by decide +kernel
theorem dX1_goOn_69 : decode cX1_goOn 69 = .ok (.iinc 5 1, 3) := by decide +kernel
theorem dX1_goOn_72 : decode cX1_goOn 72 = .ok (.goto (-37), 3) := by decide +kernel
theorem dX1_goOn_75 : decode cX1_goOn 75 = .ok (.iload 5, 2) := by decide +kernel
theorem dX1_goOn_77 : decode cX1_goOn 77 = .ok (.ireturn, 1) := by decide +kernel
set_option maxRecDepth 20000 in
theorem ggX1_climb_X1_goOn : GoodIn wsX1_climb wsX1_goOn := goodIn_r _ [5, 6, 7, 4, 8, 9, 10, 11, 12, 13, 14, 15, 16, 17, 18, 19, 20, 21, 22, 23, 24, 25, 26, 27, 28, 29, 30, 31, 32, 33] (by decide +kernel) (by decide +kernel)
set_option maxRecDepth 20000 in
theorem gX1_climb_X1_goOn : GoodIn wsX1_climb (wsV RX1 65 RX1 yX1_goOn wsX1_goOn) := goodIn_app (goodIn_of _ (by decide +kernel)) ggX1_climb_X1_goOn
theorem dX1_climb_0 : decode cX1_climb 0 = .ok (.aload_n 0, 1) := by decide +kernel
theorem dX1_climb_1 : decode cX1_climb 1 = .ok (.iload_n 1, 1) := by decide +kernel
theorem dX1_climb_2 : decode cX1_climb 2 = .ok (.iload_n 2, 1) := by decide +kernel
theorem dX1_climb_3 : decode cX1_climb 3 = .ok (.iload_n 3, 1) := by decide +kernel
theorem dX1_climb_4 : decode cX1_climb 4 = .ok (.iconst 1, 1) := by decide +kernel
theorem dX1_climb_5 : decode cX1_climb 5 = .ok (.invokevirtual 65, 3) := by decide +kernel
theorem dX1_climb_8 : decode cX1_climb 8 = .ok (.ireturn, 1) := by decide +kernel
set_option maxRecDepth 20000 in
theorem ggX1_drift_X1_goOn : GoodIn wsX1_drift wsX1_goOn := goodIn_r _ [5, 6, 7, 4, 8, 9, 10, 11, 12, 13, 14, 15, 16, 17, 18, 19, 20, 21, 22, 23, 24, 25, 26, 27, 28, 29, 30, 31, 32, 33] (by decide +kernel) (by decide +kernel)
set_option maxRecDepth 20000 in
theorem gX1_drift_X1_goOn : GoodIn wsX1_drift (wsV RX1 65 RX1 yX1_goOn wsX1_goOn) := goodIn_app (goodIn_of _ (by decide +kernel)) ggX1_drift_X1_goOn
theorem dX1_drift_0 : decode cX1_drift 0 = .ok (.aload_n 0, 1) := by decide +kernel
theorem dX1_drift_1 : decode cX1_drift 1 = .ok (.iload_n 1, 1) := by decide +kernel
theorem dX1_drift_2 : decode cX1_drift 2 = .ok (.iload_n 2, 1) := by decide +kernel
theorem dX1_drift_3 : decode cX1_drift 3 = .ok (.iload_n 3, 1) := by decide +kernel
theorem dX1_drift_4 : decode cX1_drift 4 = .ok (.iconst 0, 1) := by decide +kernel
theorem dX1_drift_5 : decode cX1_drift 5 = .ok (.invokevirtual 65, 3) := by decide +kernel
theorem dX1_drift_8 : decode cX1_drift 8 = .ok (.ireturn, 1) := by decide +kernel
set_option maxRecDepth 20000 in
theorem ggX1_pick_X1_isRow : GoodIn wsX1_pick wsX1_isRow := goodIn_r _ [4] (by decide +kernel) (by decide +kernel)
set_option maxRecDepth 20000 in
theorem gX1_pick_X1_isRow : GoodIn wsX1_pick (va_wsS RX1 30 yX1_isRow wsX1_isRow) := goodIn_app (goodIn_of _ (by decide +kernel)) ggX1_pick_X1_isRow
set_option maxRecDepth 20000 in
theorem ggX1_pick_X1_isSign : GoodIn wsX1_pick wsX1_isSign := goodIn_r _ [7] (by decide +kernel) (by decide +kernel)
set_option maxRecDepth 20000 in
theorem gX1_pick_X1_isSign : GoodIn wsX1_pick (va_wsS RX1 55 yX1_isSign wsX1_isSign) := goodIn_app (goodIn_of _ (by decide +kernel)) ggX1_pick_X1_isSign
set_option maxRecDepth 20000 in
theorem ggX1_pick_X1_may : GoodIn wsX1_pick wsX1_may := goodIn_r _ [11, 12, 22, 23, 24, 25, 26] (by decide +kernel) (by decide +kernel)
set_option maxRecDepth 20000 in
theorem gX1_pick_X1_may : GoodIn wsX1_pick (wsV RX1 40 RX1 yX1_may wsX1_may) := goodIn_app (goodIn_of _ (by decide +kernel)) ggX1_pick_X1_may
set_option maxRecDepth 20000 in
theorem ggX1_pick_X1_at : GoodIn wsX1_pick wsX1_at := goodIn_r _ [16, 17, 22, 23, 24, 25, 26] (by decide +kernel) (by decide +kernel)
set_option maxRecDepth 20000 in
theorem gX1_pick_X1_at : GoodIn wsX1_pick (wsV RX1 44 RX1 yX1_at wsX1_at) := goodIn_app (goodIn_of _ (by decide +kernel)) ggX1_pick_X1_at
set_option maxRecDepth 20000 in
theorem ggX1_pick_X1_isTrue : GoodIn wsX1_pick wsX1_isTrue := goodIn_r _ [20, 21] (by decide +kernel) (by decide +kernel)
set_option maxRecDepth 20000 in
theorem gX1_pick_X1_isTrue : GoodIn wsX1_pick (va_wsS RX1 61 yX1_isTrue wsX1_isTrue) := goodIn_app (goodIn_of _ (by decide +kernel)) ggX1_pick_X1_isTrue
theorem dX1_pick_0 : decode cX1_pick 0 = .ok (.aload_n 0, 1) := by decide +kernel
theorem dX1_pick_1 : decode cX1_pick 1 = .ok (.iload_n 1, 1) := by decide +kernel
theorem dX1_pick_2 : decode cX1_pick 2 = .ok (.invokestatic 30, 3) := by decide +kernel
theorem dX1_pick_5 : decode cX1_pick 5 = .ok (.iload_n 2, 1) := by decide +kernel
theorem dX1_pick_6 : decode cX1_pick 6 = .ok (.invokestatic 55, 3) := by decide +kernel
theorem dX1_pick_9 : decode cX1_pick 9 = .ok (.invokevirtual 40, 3) := by decide +kernel
theorem dX1_pick_12 : decode cX1_pick 12 = .ok (.ifCond .ne 5, 3) := by decide +kernel
theorem dX1_pick_15 : decode cX1_pick 15 = .ok (.iconst 0, 1) := by decide +kernel
theorem dX1_pick_16 : decode cX1_pick 16 = .ok (.ireturn, 1) := by decide +kernel
theorem dX1_pick_17 : decode cX1_pick 17 = .ok (.iconst 0, 1) := by decide +kernel
theorem dX1_pick_18 : decode cX1_pick 18 = .ok (.istore_n 3, 1) := by decide +kernel
theorem dX1_pick_19 : decode cX1_pick 19 = .ok (.iconst 1, 1) := by decide +kernel
theorem dX1_pick_20 : decode cX1_pick 20 = .ok (.istore 4, 2) := by decide +kernel
theorem dX1_pick_22 : decode cX1_pick 22 = .ok (.iload 4, 2) := by decide +kernel
theorem dX1_pick_24 : decode cX1_pick 24 = .ok (.bipush 12, 2) := by decide +kernel
theorem dX1_pick_26 : decode cX1_pick 26 = .ok (.if_icmp .ge 36, 3) := by decide +kernel
theorem dX1_pick_29 : decode cX1_pick 29 = .ok (.iload_n 2, 1) := by decide +kernel
theorem dX1_pick_30 : decode cX1_pick 30 = .ok (.aload_n 0, 1) := by decide +kernel
theorem dX1_pick_31 : decode cX1_pick 31 = .ok (.iload_n 1, 1) := by decide +kernel
theorem dX1_pick_32 : decode cX1_pick 32 = .ok (.iload 4, 2) := by decide +kernel
theorem dX1_pick_34 : decode cX1_pick 34 = .ok (.invokevirtual 44, 3) := by decide +kernel
theorem dX1_pick_37 : decode cX1_pick 37 = .ok (.aload_n 0, 1) := by decide +kernel
theorem dX1_pick_38 : decode cX1_pick 38 = .ok (.iload_n 1, 1) := by decide +kernel
theorem dX1_pick_39 : decode cX1_pick 39 = .ok (.iload_n 3, 1) := by decide +kernel
theorem dX1_pick_40 : decode cX1_pick 40 = .ok (.invokevirtual 44, 3) := by decide +kernel
theorem dX1_pick_43 : decode cX1_pick 43 = .ok (.invokestatic 61, 3) := by decide +kernel
theorem dX1_pick_46 : decode cX1_pick 46 = .ok (.ifCond .eq 8, 3) := by decide +kernel
theorem dX1_pick_49 : decode cX1_pick 49 = .ok (.iload 4, 2) := by decide +kernel
theorem dX1_pick_51 : decode cX1_pick 51 = .ok (.goto 4, 3) := by decide +kernel
theorem dX1_pick_54 : decode cX1_pick 54 = .ok (.iload_n 3, 1) := by decide +kernel
theorem dX1_pick_55 : decode cX1_pick 55 = .ok (.istore_n 3, 1) := by decide +kernel
theorem dX1_pick_56 : decode cX1_pick 56 = .ok (.iinc 4 1, 3) := by decide +kernel
theorem dX1_pick_59 : decode cX1_pick 59 = .ok (.goto (-37), 3) := by decide +kernel
theorem dX1_pick_62 : decode cX1_pick 62 = .ok (.iload_n 3, 1) := by decide +kernel
theorem dX1_pick_63 : decode cX1_pick 63 = .ok (.ireturn, 1) := by decide +kernel
set_option maxRecDepth 20000 in
theorem ggX1_keep_X1_isRow : GoodIn wsX1_keep wsX1_isRow := goodIn_r _ [5] (by decide +kernel) (by decide +kernel)
set_option maxRecDepth 20000 in
theorem gX1_keep_X1_isRow : GoodIn wsX1_keep (va_wsS RX1 30 yX1_isRow wsX1_isRow) := goodIn_app (goodIn_of _ (by decide +kernel)) ggX1_keep_X1_isRow
set_option maxRecDepth 20000 in
theorem ggX1_keep_X1_isSign : GoodIn wsX1_keep wsX1_isSign := goodIn_r _ [8] (by decide +kernel) (by decide +kernel)
set_option maxRecDepth 20000 in
theorem gX1_keep_X1_isSign : GoodIn wsX1_keep (va_wsS RX1 55 yX1_isSign wsX1_isSign) := goodIn_app (goodIn_of _ (by decide +kernel)) ggX1_keep_X1_isSign
set_option maxRecDepth 20000 in
theorem ggX1_keep_X1_may : GoodIn wsX1_keep wsX1_may := goodIn_r _ [12, 13, 23, 24, 25, 26, 27] (by decide +kernel) (by decide +kernel)
set_option maxRecDepth 20000 in
theorem gX1_keep_X1_may : GoodIn wsX1_keep (wsV RX1 40 RX1 yX1_may wsX1_may) := goodIn_app (goodIn_of _ (by decide +kernel)) ggX1_keep_X1_may
set_option maxRecDepth 20000 in
theorem ggX1_keep_X1_at : GoodIn wsX1_keep wsX1_at := goodIn_r _ [17, 18, 23, 24, 25, 26, 27] (by decide +kernel) (by decide +kernel)
set_option maxRecDepth 20000 in
theorem gX1_keep_X1_at : GoodIn wsX1_keep (wsV RX1 44 RX1 yX1_at wsX1_at) := goodIn_app (goodIn_of _ (by decide +kernel)) ggX1_keep_X1_at
set_option maxRecDepth 20000 in
theorem ggX1_keep_X1_isTrue : GoodIn wsX1_keep wsX1_isTrue := goodIn_r _ [21, 22] (by decide +kernel) (by decide +kernel)
set_option maxRecDepth 20000 in
theorem gX1_keep_X1_isTrue : GoodIn wsX1_keep (va_wsS RX1 61 yX1_isTrue wsX1_isTrue) := goodIn_app (goodIn_of _ (by decide +kernel)) ggX1_keep_X1_isTrue
theorem dX1_keep_0 : decode cX1_keep 0 = .ok (.aload_n 0, 1) := by decide +kernel
theorem dX1_keep_1 : decode cX1_keep 1 = .ok (.iload_n 1, 1) := by decide +kernel
theorem dX1_keep_2 : decode cX1_keep 2 = .ok (.invokestatic 30, 3) := by decide +kernel
theorem dX1_keep_5 : decode cX1_keep 5 = .ok (.iload_n 2, 1) := by decide +kernel
theorem dX1_keep_6 : decode cX1_keep 6 = .ok (.invokestatic 55, 3) := by decide +kernel
theorem dX1_keep_9 : decode cX1_keep 9 = .ok (.invokevirtual 40, 3) := by decide +kernel
theorem dX1_keep_12 : decode cX1_keep 12 = .ok (.ifCond .ne 5, 3) := by decide +kernel
theorem dX1_keep_15 : decode cX1_keep 15 = .ok (.iconst 0, 1) := by decide +kernel
theorem dX1_keep_16 : decode cX1_keep 16 = .ok (.ireturn, 1) := by decide +kernel
theorem dX1_keep_17 : decode cX1_keep 17 = .ok (.iconst 0, 1) := by decide +kernel
theorem dX1_keep_18 : decode cX1_keep 18 = .ok (.istore_n 3, 1) := by decide +kernel
theorem dX1_keep_19 : decode cX1_keep 19 = .ok (.iconst 0, 1) := by decide +kernel
theorem dX1_keep_20 : decode cX1_keep 20 = .ok (.istore 4, 2) := by decide +kernel
theorem dX1_keep_22 : decode cX1_keep 22 = .ok (.iconst 0, 1) := by decide +kernel
theorem dX1_keep_23 : decode cX1_keep 23 = .ok (.istore 5, 2) := by decide +kernel
theorem dX1_keep_25 : decode cX1_keep 25 = .ok (.iload 5, 2) := by decide +kernel
theorem dX1_keep_27 : decode cX1_keep 27 = .ok (.iconst 1, 1) := by decide +kernel
theorem dX1_keep_28 : decode cX1_keep 28 = .ok (.iadd, 1) := by decide +kernel
theorem dX1_keep_29 : decode cX1_keep 29 = .ok (.bipush 12, 2) := by decide +kernel
theorem dX1_keep_31 : decode cX1_keep 31 = .ok (.if_icmp .ge 42, 3) := by decide +kernel
theorem dX1_keep_34 : decode cX1_keep 34 = .ok (.iload_n 2, 1) := by decide +kernel
theorem dX1_keep_35 : decode cX1_keep 35 = .ok (.aload_n 0, 1) := by decide +kernel
theorem dX1_keep_36 : decode cX1_keep 36 = .ok (.iload_n 1, 1) := by decide +kernel
theorem dX1_keep_37 : decode cX1_keep 37 = .ok (.iload 5, 2) := by decide +kernel
theorem dX1_keep_39 : decode cX1_keep 39 = .ok (.invokevirtual 44, 3) := by decide +kernel
theorem dX1_keep_42 : decode cX1_keep 42 = .ok (.aload_n 0, 1) := by decide +kernel
theorem dX1_keep_43 : decode cX1_keep 43 = .ok (.iload_n 1, 1) := by decide +kernel
theorem dX1_keep_44 : decode cX1_keep 44 = .ok (.iload 5, 2) := by decide +kernel
theorem dX1_keep_46 : decode cX1_keep 46 = .ok (.iconst 1, 1) := by decide +kernel
theorem dX1_keep_47 : decode cX1_keep 47 = .ok (.iadd, 1) := by decide +kernel
theorem dX1_keep_48 : decode cX1_keep 48 = .ok (.invokevirtual 44, 3) := by decide +kernel
theorem dX1_keep_51 : decode cX1_keep 51 = .ok (.invokestatic 61, 3) := by decide +kernel
theorem dX1_keep_54 : decode cX1_keep 54 = .ok (.ifCond .eq 13, 3) := by decide +kernel
theorem dX1_keep_57 : decode cX1_keep 57 = .ok (.iload_n 3, 1) := by decide +kernel
theorem dX1_keep_58 : decode cX1_keep 58 = .ok (.iconst 1, 1) := by decide +kernel
theorem dX1_keep_59 : decode cX1_keep 59 = .ok (.iload 5, 2) := by decide +kernel
theorem dX1_keep_61 : decode cX1_keep 61 = .ok (.ishl, 1) := by decide +kernel
theorem dX1_keep_62 : decode cX1_keep 62 = .ok (.ior, 1) := by decide +kernel
theorem dX1_keep_63 : decode cX1_keep 63 = .ok (.istore_n 3, 1) := by decide +kernel
theorem dX1_keep_64 : decode cX1_keep 64 = .ok (.iinc 4 1, 3) := by decide +kernel
theorem dX1_keep_67 : decode cX1_keep 67 = .ok (.iinc 5 1, 3) := by decide +kernel
theorem dX1_keep_70 : decode cX1_keep 70 = .ok (.goto (-45), 3) := by decide +kernel
theorem dX1_keep_73 : decode cX1_keep 73 = .ok (.aload_n 0, 1) := by decide +kernel
theorem dX1_keep_74 : decode cX1_keep 74 = .ok (.getfield 20, 3) := by decide +kernel
theorem dX1_keep_77 : decode cX1_keep 77 = .ok (.iload_n 1, 1) := by decide +kernel
theorem dX1_keep_78 : decode cX1_keep 78 = .ok (.iload_n 3, 1) := by decide +kernel
theorem dX1_keep_79 : decode cX1_keep 79 = .ok (.iastore, 1) := by decide +kernel
theorem dX1_keep_80 : decode cX1_keep 80 = .ok (.iload 4, 2) := by decide +kernel
theorem dX1_keep_82 : decode cX1_keep 82 = .ok (.ireturn, 1) := by decide +kernel
set_option maxRecDepth 20000 in
theorem ggX1_notes_X1_isRow : GoodIn wsX1_notes wsX1_isRow := goodIn_r _ [5] (by decide +kernel) (by decide +kernel)
set_option maxRecDepth 20000 in
theorem gX1_notes_X1_isRow : GoodIn wsX1_notes (va_wsS RX1 30 yX1_isRow wsX1_isRow) := goodIn_app (goodIn_of _ (by decide +kernel)) ggX1_notes_X1_isRow
set_option maxRecDepth 20000 in
theorem ggX1_notes_X1_may : GoodIn wsX1_notes wsX1_may := goodIn_r _ [9, 10, 11, 12, 13, 14, 15] (by decide +kernel) (by decide +kernel)
set_option maxRecDepth 20000 in
theorem gX1_notes_X1_may : GoodIn wsX1_notes (wsV RX1 40 RX1 yX1_may wsX1_may) := goodIn_app (goodIn_of _ (by decide +kernel)) ggX1_notes_X1_may
theorem dX1_notes_0 : decode cX1_notes 0 = .ok (.aload_n 0, 1) := by decide +kernel
theorem dX1_notes_1 : decode cX1_notes 1 = .ok (.iload_n 1, 1) := by decide +kernel
theorem dX1_notes_2 : decode cX1_notes 2 = .ok (.invokestatic 30, 3) := by decide +kernel
theorem dX1_notes_5 : decode cX1_notes 5 = .ok (.iconst 1, 1) := by decide +kernel
theorem dX1_notes_6 : decode cX1_notes 6 = .ok (.invokevirtual 40, 3) := by decide +kernel
theorem dX1_notes_9 : decode cX1_notes 9 = .ok (.ifCond .ne 5, 3) := by decide +kernel
theorem dX1_notes_12 : decode cX1_notes 12 = .ok (.iconst 0, 1) := by decide +kernel
theorem dX1_notes_13 : decode cX1_notes 13 = .ok (.ireturn, 1) := by decide +kernel
theorem dX1_notes_14 : decode cX1_notes 14 = .ok (.aload_n 0, 1) := by decide +kernel
theorem dX1_notes_15 : decode cX1_notes 15 = .ok (.getfield 20, 3) := by decide +kernel
theorem dX1_notes_18 : decode cX1_notes 18 = .ok (.iload_n 1, 1) := by decide +kernel
theorem dX1_notes_19 : decode cX1_notes 19 = .ok (.iaload, 1) := by decide +kernel
theorem dX1_notes_20 : decode cX1_notes 20 = .ok (.ireturn, 1) := by decide +kernel
set_option maxRecDepth 20000 in
theorem ggX1_gaps_X1_isRow : GoodIn wsX1_gaps wsX1_isRow := goodIn_r _ [5] (by decide +kernel) (by decide +kernel)
set_option maxRecDepth 20000 in
theorem gX1_gaps_X1_isRow : GoodIn wsX1_gaps (va_wsS RX1 30 yX1_isRow wsX1_isRow) := goodIn_app (goodIn_of _ (by decide +kernel)) ggX1_gaps_X1_isRow
set_option maxRecDepth 20000 in
theorem ggX1_gaps_X1_may : GoodIn wsX1_gaps wsX1_may := goodIn_r _ [9, 10, 16, 17, 18, 19, 20] (by decide +kernel) (by decide +kernel)
set_option maxRecDepth 20000 in
theorem gX1_gaps_X1_may : GoodIn wsX1_gaps (wsV RX1 40 RX1 yX1_may wsX1_may) := goodIn_app (goodIn_of _ (by decide +kernel)) ggX1_gaps_X1_may
set_option maxRecDepth 20000 in
theorem ggX1_gaps_X1_at : GoodIn wsX1_gaps wsX1_at := goodIn_r _ [14, 15, 16, 17, 18, 19, 20] (by decide +kernel) (by decide +kernel)
set_option maxRecDepth 20000 in
theorem gX1_gaps_X1_at : GoodIn wsX1_gaps (wsV RX1 44 RX1 yX1_at wsX1_at) := goodIn_app (goodIn_of _ (by decide +kernel)) ggX1_gaps_X1_at
theorem dX1_gaps_0 : decode cX1_gaps 0 = .ok (.aload_n 0, 1) := by decide +kernel
theorem dX1_gaps_1 : decode cX1_gaps 1 = .ok (.iload_n 1, 1) := by decide +kernel
theorem dX1_gaps_2 : decode cX1_gaps 2 = .ok (.invokestatic 30, 3) := by decide +kernel
theorem dX1_gaps_5 : decode cX1_gaps 5 = .ok (.iconst 1, 1) := by decide +kernel
theorem dX1_gaps_6 : decode cX1_gaps 6 = .ok (.invokevirtual 40, 3) := by decide +kernel
theorem dX1_gaps_9 : decode cX1_gaps 9 = .ok (.ifCond .ne 5, 3) := by decide +kernel
theorem dX1_gaps_12 : decode cX1_gaps 12 = .ok (.iconst 0, 1) := by decide +kernel
theorem dX1_gaps_13 : decode cX1_gaps 13 = .ok (.ireturn, 1) := by decide +kernel
theorem dX1_gaps_14 : decode cX1_gaps 14 = .ok (.iconst 0, 1) := by decide +kernel
theorem dX1_gaps_15 : decode cX1_gaps 15 = .ok (.istore_n 2, 1) := by decide +kernel
theorem dX1_gaps_16 : decode cX1_gaps 16 = .ok (.iconst 0, 1) := by decide +kernel
theorem dX1_gaps_17 : decode cX1_gaps 17 = .ok (.istore_n 3, 1) := by decide +kernel
theorem dX1_gaps_18 : decode cX1_gaps 18 = .ok (.iload_n 3, 1) := by decide +kernel
theorem dX1_gaps_19 : decode cX1_gaps 19 = .ok (.bipush 12, 2) := by decide +kernel
theorem dX1_gaps_21 : decode cX1_gaps 21 = .ok (.if_icmp .ge 28, 3) := by decide +kernel
theorem dX1_gaps_24 : decode cX1_gaps 24 = .ok (.iload_n 2, 1) := by decide +kernel
theorem dX1_gaps_25 : decode cX1_gaps 25 = .ok (.aload_n 0, 1) := by decide +kernel
theorem dX1_gaps_26 : decode cX1_gaps 26 = .ok (.iload_n 1, 1) := by decide +kernel
theorem dX1_gaps_27 : decode cX1_gaps 27 = .ok (.iload_n 3, 1) := by decide +kernel
theorem dX1_gaps_28 : decode cX1_gaps 28 = .ok (.invokevirtual 44, 3) := by decide +kernel
theorem dX1_gaps_31 : decode cX1_gaps 31 = .ok (.ldc 23, 2) := by decide +kernel
theorem dX1_gaps_33 : decode cX1_gaps 33 = .ok (.if_icmp .ne 7, 3) := by decide +kernel
theorem dX1_gaps_36 : decode cX1_gaps 36 = .ok (.iconst 1, 1) := by decide +kernel
theorem dX1_gaps_37 : decode cX1_gaps 37 = .ok (.goto 4, 3) := by decide +kernel
theorem dX1_gaps_40 : decode cX1_gaps 40 = .ok (.iconst 0, 1) := by decide +kernel
theorem dX1_gaps_41 : decode cX1_gaps 41 = .ok (.iadd, 1) := by decide +kernel
theorem dX1_gaps_42 : decode cX1_gaps 42 = .ok (.istore_n 2, 1) := by decide +kernel
theorem dX1_gaps_43 : decode cX1_gaps 43 = .ok (.iinc 3 1, 3) := by decide +kernel
theorem dX1_gaps_46 : decode cX1_gaps 46 = .ok (.goto (-28), 3) := by decide +kernel
theorem dX1_gaps_49 : decode cX1_gaps 49 = .ok (.iload_n 2, 1) := by decide +kernel
theorem dX1_gaps_50 : decode cX1_gaps 50 = .ok (.ireturn, 1) := by decide +kernel
set_option maxRecDepth 20000 in
theorem ggX1_settle_X1_isRow : GoodIn wsX1_settle wsX1_isRow := goodIn_r _ [5] (by decide +kernel) (by decide +kernel)
set_option maxRecDepth 20000 in
theorem gX1_settle_X1_isRow : GoodIn wsX1_settle (va_wsS RX1 30 yX1_isRow wsX1_isRow) := goodIn_app (goodIn_of _ (by decide +kernel)) ggX1_settle_X1_isRow
set_option maxRecDepth 20000 in
theorem ggX1_settle_X1_isSign : GoodIn wsX1_settle wsX1_isSign := goodIn_r _ [8] (by decide +kernel) (by decide +kernel)
set_option maxRecDepth 20000 in
theorem gX1_settle_X1_isSign : GoodIn wsX1_settle (va_wsS RX1 55 yX1_isSign wsX1_isSign) := goodIn_app (goodIn_of _ (by decide +kernel)) ggX1_settle_X1_isSign
set_option maxRecDepth 20000 in
theorem ggX1_settle_X1_may : GoodIn wsX1_settle wsX1_may := goodIn_r _ [12, 13, 22, 23, 24, 25, 26] (by decide +kernel) (by decide +kernel)
set_option maxRecDepth 20000 in
theorem gX1_settle_X1_may : GoodIn wsX1_settle (wsV RX1 40 RX1 yX1_may wsX1_may) := goodIn_app (goodIn_of _ (by decide +kernel)) ggX1_settle_X1_may
set_option maxRecDepth 20000 in
theorem ggX1_settle_X1_at : GoodIn wsX1_settle wsX1_at := goodIn_r _ [17, 1, 22, 23, 24, 25, 26] (by decide +kernel) (by decide +kernel)
set_option maxRecDepth 20000 in
theorem gX1_settle_X1_at : GoodIn wsX1_settle (wsV RX1 44 RX1 yX1_at wsX1_at) := goodIn_app (goodIn_of _ (by decide +kernel)) ggX1_settle_X1_at
set_option maxRecDepth 20000 in
theorem ggX1_settle_X1_isTrue : GoodIn wsX1_settle wsX1_isTrue := goodIn_r _ [20, 21] (by decide +kernel) (by decide +kernel)
set_option maxRecDepth 20000 in
theorem gX1_settle_X1_isTrue : GoodIn wsX1_settle (va_wsS RX1 61 yX1_isTrue wsX1_isTrue) := goodIn_app (goodIn_of _ (by decide +kernel)) ggX1_settle_X1_isTrue
theorem dX1_settle_0 : decode cX1_settle 0 = .ok (.aload_n 0, 1) := by decide +kernel
theorem dX1_settle_1 : decode cX1_settle 1 = .ok (.iload_n 1, 1) := by decide +kernel
theorem dX1_settle_2 : decode cX1_settle 2 = .ok (.invokestatic 30, 3) := by decide +kernel
theorem dX1_settle_5 : decode cX1_settle 5 = .ok (.iload_n 2, 1) := by decide +kernel
theorem dX1_settle_6 : decode cX1_settle 6 = .ok (.invokestatic 55, 3) := by decide +kernel
theorem dX1_settle_9 : decode cX1_settle 9 = .ok (.invokevirtual 40, 3) := by decide +kernel
theorem dX1_settle_12 : decode cX1_settle 12 = .ok (.ifCond .ne 5, 3) := by decide +kernel
theorem dX1_settle_15 : decode cX1_settle 15 = .ok (.iconst 0, 1) := by decide +kernel
theorem dX1_settle_16 : decode cX1_settle 16 = .ok (.ireturn, 1) := by decide +kernel
theorem dX1_settle_17 : decode cX1_settle 17 = .ok (.iconst 0, 1) := by decide +kernel
theorem dX1_settle_18 : decode cX1_settle 18 = .ok (.istore_n 3, 1) := by decide +kernel
theorem dX1_settle_19 : decode cX1_settle 19 = .ok (.iconst 1, 1) := by decide +kernel
theorem dX1_settle_20 : decode cX1_settle 20 = .ok (.istore 4, 2) := by decide +kernel
theorem dX1_settle_22 : decode cX1_settle 22 = .ok (.iload 4, 2) := by decide +kernel
theorem dX1_settle_24 : decode cX1_settle 24 = .ok (.bipush 12, 2) := by decide +kernel
theorem dX1_settle_26 : decode cX1_settle 26 = .ok (.if_icmp .ge 96, 3) := by decide +kernel
theorem dX1_settle_29 : decode cX1_settle 29 = .ok (.iload 4, 2) := by decide +kernel
theorem dX1_settle_31 : decode cX1_settle 31 = .ok (.istore 5, 2) := by decide +kernel
theorem dX1_settle_33 : decode cX1_settle 33 = .ok (.iload 5, 2) := by decide +kernel
theorem dX1_settle_35 : decode cX1_settle 35 = .ok (.ifCond .le 81, 3) := by decide +kernel
theorem dX1_settle_38 : decode cX1_settle 38 = .ok (.iload_n 2, 1) := by decide +kernel
theorem dX1_settle_39 : decode cX1_settle 39 = .ok (.aload_n 0, 1) := by decide +kernel
theorem dX1_settle_40 : decode cX1_settle 40 = .ok (.iload_n 1, 1) := by decide +kernel
theorem dX1_settle_41 : decode cX1_settle 41 = .ok (.iload 5, 2) := by decide +kernel
theorem dX1_settle_43 : decode cX1_settle 43 = .ok (.invokevirtual 44, 3) := by decide +kernel
theorem dX1_settle_46 : decode cX1_settle 46 = .ok (.aload_n 0, 1) := by decide +kernel
theorem dX1_settle_47 : decode cX1_settle 47 = .ok (.iload_n 1, 1) := by decide +kernel
theorem dX1_settle_48 : decode cX1_settle 48 = .ok (.iload 5, 2) := by decide +kernel
theorem dX1_settle_50 : decode cX1_settle 50 = .ok (.iconst 1, 1) := by decide +kernel
theorem dX1_settle_51 : decode cX1_settle 51 = .ok (.isub, 1) := by decide +kernel
theorem dX1_settle_52 : decode cX1_settle 52 = .ok (.invokevirtual 44, 3) := by decide +kernel
theorem dX1_settle_55 : decode cX1_settle 55 = .ok (.invokestatic 61, 3) := by decide +kernel
theorem dX1_settle_58 : decode cX1_settle 58 = .ok (.ifCond .eq 58, 3) := by decide +kernel
theorem dX1_settle_61 : decode cX1_settle 61 = .ok (.aload_n 0, 1) := by decide +kernel
theorem dX1_settle_62 : decode cX1_settle 62 = .ok (.iload_n 1, 1) := by decide +kernel
theorem dX1_settle_63 : decode cX1_settle 63 = .ok (.iload 5, 2) := by decide +kernel
theorem dX1_settle_65 : decode cX1_settle 65 = .ok (.invokevirtual 44, 3) := by decide +kernel
theorem dX1_settle_68 : decode cX1_settle 68 = .ok (.istore 6, 2) := by decide +kernel
theorem dX1_settle_70 : decode cX1_settle 70 = .ok (.aload_n 0, 1) := by decide +kernel
theorem dX1_settle_71 : decode cX1_settle 71 = .ok (.getfield 7, 3) := by decide +kernel
theorem dX1_settle_74 : decode cX1_settle 74 = .ok (.bipush 12, 2) := by decide +kernel
theorem dX1_settle_76 : decode cX1_settle 76 = .ok (.iload_n 1, 1) := by decide +kernel
theorem dX1_settle_77 : decode cX1_settle 77 = .ok (.imul, 1) := by decide +kernel
theorem dX1_settle_78 : decode cX1_settle 78 = .ok (.iload 5, 2) := by decide +kernel
theorem dX1_settle_80 : decode cX1_settle 80 = .ok (.iadd, 1) := by decide +kernel
theorem dX1_settle_81 : decode cX1_settle 81 = .ok (.aload_n 0, 1) := by decide +kernel
theorem dX1_settle_82 : decode cX1_settle 82 = .ok (.iload_n 1, 1) := by decide +kernel
theorem dX1_settle_83 : decode cX1_settle 83 = .ok (.iload 5, 2) := by decide +kernel
theorem dX1_settle_85 : decode cX1_settle 85 = .ok (.iconst 1, 1) := by decide +kernel
theorem dX1_settle_86 : decode cX1_settle 86 = .ok (.isub, 1) := by decide +kernel
theorem dX1_settle_87 : decode cX1_settle 87 = .ok (.invokevirtual 44, 3) := by decide +kernel
theorem dX1_settle_90 : decode cX1_settle 90 = .ok (.iastore, 1) := by decide +kernel
theorem dX1_settle_91 : decode cX1_settle 91 = .ok (.aload_n 0, 1) := by decide +kernel
theorem dX1_settle_92 : decode cX1_settle 92 = .ok (.getfield 7, 3) := by decide +kernel
theorem dX1_settle_95 : decode cX1_settle 95 = .ok (.bipush 12, 2) := by decide +kernel
theorem dX1_settle_97 : decode cX1_settle 97 = .ok (.iload_n 1, 1) := by decide +kernel
theorem dX1_settle_98 : decode cX1_settle 98 = .ok (.imul, 1) := by decide +kernel
theorem dX1_settle_99 : decode cX1_settle 99 = .ok (.iload 5, 2) := by decide +kernel
theorem dX1_settle_101 : decode cX1_settle 101 = .ok (.iadd, 1) := by decide +kernel
theorem dX1_settle_102 : decode cX1_settle 102 = .ok (.iconst 1, 1) := by decide +kernel
theorem dX1_settle_103 : decode cX1_settle 103 = .ok (.isub, 1) := by decide +kernel
theorem dX1_settle_104 : decode cX1_settle 104 = .ok (.iload 6, 2) := by decide +kernel
theorem dX1_settle_106 : decode cX1_settle 106 = .ok (.iastore, 1) := by decide +kernel
theorem dX1_settle_107 : decode cX1_settle 107 = .ok (.iinc 5 (-1), 3) := by decide +kernel
theorem dX1_settle_110 : decode cX1_settle 110 = .ok (.iinc 3 1, 3) := by decide +kernel
theorem dX1_settle_113 : decode cX1_settle 113 = .ok (.goto (-80), 3) := by decide +kernel
theorem dX1_settle_116 : decode cX1_settle 116 = .ok (.iinc 4 1, 3) := by decide +kernel
theorem dX1_settle_119 : decode cX1_settle 119 = .ok (.goto (-97), 3) := by decide +kernel
theorem dX1_settle_122 : decode cX1_settle 122 = .ok (.iload_n 3, 1) := by decide +kernel
theorem dX1_settle_123 : decode cX1_settle 123 = .ok (.ireturn, 1) := by decide +kernel
set_option maxRecDepth 20000 in
theorem ggX1_meet_X1_isRow : GoodIn wsX1_meet wsX1_isRow := goodIn_r _ [4] (by decide +kernel) (by decide +kernel)
set_option maxRecDepth 20000 in
theorem gX1_meet_X1_isRow : GoodIn wsX1_meet (va_wsS RX1 30 yX1_isRow wsX1_isRow) := goodIn_app (goodIn_of _ (by decide +kernel)) ggX1_meet_X1_isRow
set_option maxRecDepth 20000 in
theorem ggX1_meet_X1_isSign : GoodIn wsX1_meet wsX1_isSign := goodIn_r _ [7] (by decide +kernel) (by decide +kernel)
set_option maxRecDepth 20000 in
theorem gX1_meet_X1_isSign : GoodIn wsX1_meet (va_wsS RX1 55 yX1_isSign wsX1_isSign) := goodIn_app (goodIn_of _ (by decide +kernel)) ggX1_meet_X1_isSign
set_option maxRecDepth 20000 in
theorem ggX1_meet_X1_areOneSort : GoodIn wsX1_meet wsX1_areOneSort := goodIn_r _ [10] (by decide +kernel) (by decide +kernel)
set_option maxRecDepth 20000 in
theorem gX1_meet_X1_areOneSort : GoodIn wsX1_meet (va_wsS RX1 51 yX1_areOneSort wsX1_areOneSort) := goodIn_app (goodIn_of _ (by decide +kernel)) ggX1_meet_X1_areOneSort
set_option maxRecDepth 20000 in
theorem ggX1_meet_X1_may : GoodIn wsX1_meet wsX1_may := goodIn_r _ [14, 15, 25, 26, 27, 28, 29] (by decide +kernel) (by decide +kernel)
set_option maxRecDepth 20000 in
theorem gX1_meet_X1_may : GoodIn wsX1_meet (wsV RX1 40 RX1 yX1_may wsX1_may) := goodIn_app (goodIn_of _ (by decide +kernel)) ggX1_meet_X1_may
set_option maxRecDepth 20000 in
theorem ggX1_meet_X1_at : GoodIn wsX1_meet wsX1_at := goodIn_r _ [19, 20, 25, 26, 27, 28, 29] (by decide +kernel) (by decide +kernel)
set_option maxRecDepth 20000 in
theorem gX1_meet_X1_at : GoodIn wsX1_meet (wsV RX1 44 RX1 yX1_at wsX1_at) := goodIn_app (goodIn_of _ (by decide +kernel)) ggX1_meet_X1_at
set_option maxRecDepth 20000 in
theorem ggX1_meet_X1_isTrue : GoodIn wsX1_meet wsX1_isTrue := goodIn_r _ [23, 24] (by decide +kernel) (by decide +kernel)
set_option maxRecDepth 20000 in
theorem gX1_meet_X1_isTrue : GoodIn wsX1_meet (va_wsS RX1 61 yX1_isTrue wsX1_isTrue) := goodIn_app (goodIn_of _ (by decide +kernel)) ggX1_meet_X1_isTrue
theorem dX1_meet_0 : decode cX1_meet 0 = .ok (.aload_n 0, 1) := by decide +kernel
theorem dX1_meet_1 : decode cX1_meet 1 = .ok (.iload_n 1, 1) := by decide +kernel
theorem dX1_meet_2 : decode cX1_meet 2 = .ok (.invokestatic 30, 3) := by decide +kernel
theorem dX1_meet_5 : decode cX1_meet 5 = .ok (.ifCond .eq 14, 3) := by decide +kernel
theorem dX1_meet_8 : decode cX1_meet 8 = .ok (.iload_n 2, 1) := by decide +kernel
theorem dX1_meet_9 : decode cX1_meet 9 = .ok (.invokestatic 30, 3) := by decide +kernel
theorem dX1_meet_12 : decode cX1_meet 12 = .ok (.ifCond .eq 7, 3) := by decide +kernel
theorem dX1_meet_15 : decode cX1_meet 15 = .ok (.iconst 1, 1) := by decide +kernel
theorem dX1_meet_16 : decode cX1_meet 16 = .ok (.goto 4, 3) := by decide +kernel
theorem dX1_meet_19 : decode cX1_meet 19 = .ok (.iconst 0, 1) := by decide +kernel
theorem dX1_meet_20 : decode cX1_meet 20 = .ok (.iload_n 3, 1) := by decide +kernel
theorem dX1_meet_21 : decode cX1_meet 21 = .ok (.invokestatic 55, 3) := by decide +kernel
theorem dX1_meet_24 : decode cX1_meet 24 = .ok (.ifCond .eq 15, 3) := by decide +kernel
theorem dX1_meet_27 : decode cX1_meet 27 = .ok (.iload_n 1, 1) := by decide +kernel
theorem dX1_meet_28 : decode cX1_meet 28 = .ok (.iload_n 2, 1) := by decide +kernel
theorem dX1_meet_29 : decode cX1_meet 29 = .ok (.invokestatic 51, 3) := by decide +kernel
theorem dX1_meet_32 : decode cX1_meet 32 = .ok (.ifCond .eq 7, 3) := by decide +kernel
theorem dX1_meet_35 : decode cX1_meet 35 = .ok (.iconst 1, 1) := by decide +kernel
theorem dX1_meet_36 : decode cX1_meet 36 = .ok (.goto 4, 3) := by decide +kernel
theorem dX1_meet_39 : decode cX1_meet 39 = .ok (.iconst 0, 1) := by decide +kernel
theorem dX1_meet_40 : decode cX1_meet 40 = .ok (.invokevirtual 40, 3) := by decide +kernel
theorem dX1_meet_43 : decode cX1_meet 43 = .ok (.ifCond .ne 5, 3) := by decide +kernel
theorem dX1_meet_46 : decode cX1_meet 46 = .ok (.iconst 0, 1) := by decide +kernel
theorem dX1_meet_47 : decode cX1_meet 47 = .ok (.ireturn, 1) := by decide +kernel
theorem dX1_meet_48 : decode cX1_meet 48 = .ok (.iconst 0, 1) := by decide +kernel
theorem dX1_meet_49 : decode cX1_meet 49 = .ok (.istore 4, 2) := by decide +kernel
theorem dX1_meet_51 : decode cX1_meet 51 = .ok (.iconst 0, 1) := by decide +kernel
theorem dX1_meet_52 : decode cX1_meet 52 = .ok (.istore 5, 2) := by decide +kernel
theorem dX1_meet_54 : decode cX1_meet 54 = .ok (.iload 5, 2) := by decide +kernel
theorem dX1_meet_56 : decode cX1_meet 56 = .ok (.bipush 12, 2) := by decide +kernel
theorem dX1_meet_58 : decode cX1_meet 58 = .ok (.if_icmp .ge 40, 3) := by decide +kernel
theorem dX1_meet_61 : decode cX1_meet 61 = .ok (.iload 4, 2) := by decide +kernel
theorem dX1_meet_63 : decode cX1_meet 63 = .ok (.iload_n 3, 1) := by decide +kernel
theorem dX1_meet_64 : decode cX1_meet 64 = .ok (.aload_n 0, 1) := by decide +kernel
theorem dX1_meet_65 : decode cX1_meet 65 = .ok (.iload_n 1, 1) := by decide +kernel
theorem dX1_meet_66 : decode cX1_meet 66 = .ok (.iload 5, 2) := by decide +kernel
theorem dX1_meet_68 : decode cX1_meet 68 = .ok (.invokevirtual 44, 3) := by decide +kernel
theorem dX1_meet_71 : decode cX1_meet 71 = .ok (.aload_n 0, 1) := by decide +kernel
theorem dX1_meet_72 : decode cX1_meet 72 = .ok (.iload_n 2, 1) := by decide +kernel
theorem dX1_meet_73 : decode cX1_meet 73 = .ok (.iload 5, 2) := by decide +kernel
theorem dX1_meet_75 : decode cX1_meet 75 = .ok (.invokevirtual 44, 3) := by decide +kernel
theorem dX1_meet_78 : decode cX1_meet 78 = .ok (.invokestatic 61, 3) := by decide +kernel
theorem dX1_meet_81 : decode cX1_meet 81 = .ok (.ifCond .eq 7, 3) := by decide +kernel
theorem dX1_meet_84 : decode cX1_meet 84 = .ok (.iconst 1, 1) := by decide +kernel
theorem dX1_meet_85 : decode cX1_meet 85 = .ok (.goto 4, 3) := by decide +kernel
theorem dX1_meet_88 : decode cX1_meet 88 = .ok (.iconst 0, 1) := by decide +kernel
theorem dX1_meet_89 : decode cX1_meet 89 = .ok (.iadd, 1) := by decide +kernel
theorem dX1_meet_90 : decode cX1_meet 90 = .ok (.istore 4, 2) := by decide +kernel
theorem dX1_meet_92 : decode cX1_meet 92 = .ok (.iinc 5 1, 3) := by decide +kernel
theorem dX1_meet_95 : decode cX1_meet 95 = .ok (.goto (-41), 3) := by decide +kernel
theorem dX1_meet_98 : decode cX1_meet 98 = .ok (.iload 4, 2) := by decide +kernel
theorem dX1_meet_100 : decode cX1_meet 100 = .ok (.ireturn, 1) := by decide +kernel
set_option maxRecDepth 20000 in
theorem ggX1_alike_X1_isRow : GoodIn wsX1_alike wsX1_isRow := goodIn_r _ [4] (by decide +kernel) (by decide +kernel)
set_option maxRecDepth 20000 in
theorem gX1_alike_X1_isRow : GoodIn wsX1_alike (va_wsS RX1 30 yX1_isRow wsX1_isRow) := goodIn_app (goodIn_of _ (by decide +kernel)) ggX1_alike_X1_isRow
set_option maxRecDepth 20000 in
theorem ggX1_alike_X1_areOneSort : GoodIn wsX1_alike wsX1_areOneSort := goodIn_r _ [7] (by decide +kernel) (by decide +kernel)
set_option maxRecDepth 20000 in
theorem gX1_alike_X1_areOneSort : GoodIn wsX1_alike (va_wsS RX1 51 yX1_areOneSort wsX1_areOneSort) := goodIn_app (goodIn_of _ (by decide +kernel)) ggX1_alike_X1_areOneSort
set_option maxRecDepth 20000 in
theorem ggX1_alike_X1_may : GoodIn wsX1_alike wsX1_may := goodIn_r _ [11, 12, 18, 19, 20, 21, 22] (by decide +kernel) (by decide +kernel)
set_option maxRecDepth 20000 in
theorem gX1_alike_X1_may : GoodIn wsX1_alike (wsV RX1 40 RX1 yX1_may wsX1_may) := goodIn_app (goodIn_of _ (by decide +kernel)) ggX1_alike_X1_may
set_option maxRecDepth 20000 in
theorem ggX1_alike_X1_at : GoodIn wsX1_alike wsX1_at := goodIn_r _ [16, 17, 18, 19, 20, 21, 22] (by decide +kernel) (by decide +kernel)
set_option maxRecDepth 20000 in
theorem gX1_alike_X1_at : GoodIn wsX1_alike (wsV RX1 44 RX1 yX1_at wsX1_at) := goodIn_app (goodIn_of _ (by decide +kernel)) ggX1_alike_X1_at
theorem dX1_alike_0 : decode cX1_alike 0 = .ok (.aload_n 0, 1) := by decide +kernel
theorem dX1_alike_1 : decode cX1_alike 1 = .ok (.iload_n 1, 1) := by decide +kernel
theorem dX1_alike_2 : decode cX1_alike 2 = .ok (.invokestatic 30, 3) := by decide +kernel
theorem dX1_alike_5 : decode cX1_alike 5 = .ok (.ifCond .eq 14, 3) := by decide +kernel
theorem dX1_alike_8 : decode cX1_alike 8 = .ok (.iload_n 2, 1) := by decide +kernel
theorem dX1_alike_9 : decode cX1_alike 9 = .ok (.invokestatic 30, 3) := by decide +kernel
theorem dX1_alike_12 : decode cX1_alike 12 = .ok (.ifCond .eq 7, 3) := by decide +kernel
theorem dX1_alike_15 : decode cX1_alike 15 = .ok (.iconst 1, 1) := by decide +kernel
theorem dX1_alike_16 : decode cX1_alike 16 = .ok (.goto 4, 3) := by decide +kernel
theorem dX1_alike_19 : decode cX1_alike 19 = .ok (.iconst 0, 1) := by decide +kernel
theorem dX1_alike_20 : decode cX1_alike 20 = .ok (.iload_n 1, 1) := by decide +kernel
theorem dX1_alike_21 : decode cX1_alike 21 = .ok (.iload_n 2, 1) := by decide +kernel
theorem dX1_alike_22 : decode cX1_alike 22 = .ok (.invokestatic 51, 3) := by decide +kernel
theorem dX1_alike_25 : decode cX1_alike 25 = .ok (.invokevirtual 40, 3) := by decide +kernel
theorem dX1_alike_28 : decode cX1_alike 28 = .ok (.ifCond .ne 5, 3) := by decide +kernel
theorem dX1_alike_31 : decode cX1_alike 31 = .ok (.iconst 0, 1) := by decide +kernel
theorem dX1_alike_32 : decode cX1_alike 32 = .ok (.ireturn, 1) := by decide +kernel
theorem dX1_alike_33 : decode cX1_alike 33 = .ok (.iconst 1, 1) := by decide +kernel
theorem dX1_alike_34 : decode cX1_alike 34 = .ok (.istore_n 3, 1) := by decide +kernel
theorem dX1_alike_35 : decode cX1_alike 35 = .ok (.iconst 0, 1) := by decide +kernel
theorem dX1_alike_36 : decode cX1_alike 36 = .ok (.istore 4, 2) := by decide +kernel
theorem dX1_alike_38 : decode cX1_alike 38 = .ok (.iload 4, 2) := by decide +kernel
theorem dX1_alike_40 : decode cX1_alike 40 = .ok (.bipush 12, 2) := by decide +kernel
theorem dX1_alike_42 : decode cX1_alike 42 = .ok (.if_icmp .ge 36, 3) := by decide +kernel
theorem dX1_alike_45 : decode cX1_alike 45 = .ok (.iload_n 3, 1) := by decide +kernel
theorem dX1_alike_46 : decode cX1_alike 46 = .ok (.ifCond .eq 24, 3) := by decide +kernel
theorem dX1_alike_49 : decode cX1_alike 49 = .ok (.aload_n 0, 1) := by decide +kernel
theorem dX1_alike_50 : decode cX1_alike 50 = .ok (.iload_n 1, 1) := by decide +kernel
theorem dX1_alike_51 : decode cX1_alike 51 = .ok (.iload 4, 2) := by decide +kernel
theorem dX1_alike_53 : decode cX1_alike 53 = .ok (.invokevirtual 44, 3) := by decide +kernel
theorem dX1_alike_56 : decode cX1_alike 56 = .ok (.aload_n 0, 1) := by decide +kernel
theorem dX1_alike_57 : decode cX1_alike 57 = .ok (.iload_n 2, 1) := by decide +kernel
theorem dX1_alike_58 : decode cX1_alike 58 = .ok (.iload 4, 2) := by decide +kernel
theorem dX1_alike_60 : decode cX1_alike 60 = .ok (.invokevirtual 44, 3) := by decide +kernel
theorem dX1_alike_63 : decode cX1_alike 63 = .ok (.if_icmp .ne 7, 3) := by decide +kernel
theorem dX1_alike_66 : decode cX1_alike 66 = .ok (.iconst 1, 1) := by decide +kernel
theorem dX1_alike_67 : decode cX1_alike 67 = .ok (.goto 4, 3) := by decide +kernel
theorem dX1_alike_70 : decode cX1_alike 70 = .ok (.iconst 0, 1) := by decide +kernel
theorem dX1_alike_71 : decode cX1_alike 71 = .ok (.istore_n 3, 1) := by decide +kernel
theorem dX1_alike_72 : decode cX1_alike 72 = .ok (.iinc 4 1, 3) := by decide +kernel
theorem dX1_alike_75 : decode cX1_alike 75 = .ok (.goto (-37), 3) := by decide +kernel
theorem dX1_alike_78 : decode cX1_alike 78 = .ok (.iload_n 3, 1) := by decide +kernel
theorem dX1_alike_79 : decode cX1_alike 79 = .ok (.ireturn, 1) := by decide +kernel
set_option maxRecDepth 20000 in
theorem ggX1_merge_X1_isRow : GoodIn wsX1_merge wsX1_isRow := goodIn_r _ [5] (by decide +kernel) (by decide +kernel)
set_option maxRecDepth 20000 in
theorem gX1_merge_X1_isRow : GoodIn wsX1_merge (va_wsS RX1 30 yX1_isRow wsX1_isRow) := goodIn_app (goodIn_of _ (by decide +kernel)) ggX1_merge_X1_isRow
set_option maxRecDepth 20000 in
theorem ggX1_merge_X1_isSign : GoodIn wsX1_merge wsX1_isSign := goodIn_r _ [8] (by decide +kernel) (by decide +kernel)
set_option maxRecDepth 20000 in
theorem gX1_merge_X1_isSign : GoodIn wsX1_merge (va_wsS RX1 55 yX1_isSign wsX1_isSign) := goodIn_app (goodIn_of _ (by decide +kernel)) ggX1_merge_X1_isSign
set_option maxRecDepth 20000 in
theorem ggX1_merge_X1_areOneSort : GoodIn wsX1_merge wsX1_areOneSort := goodIn_r _ [11] (by decide +kernel) (by decide +kernel)
set_option maxRecDepth 20000 in
theorem gX1_merge_X1_areOneSort : GoodIn wsX1_merge (va_wsS RX1 51 yX1_areOneSort wsX1_areOneSort) := goodIn_app (goodIn_of _ (by decide +kernel)) ggX1_merge_X1_areOneSort
set_option maxRecDepth 20000 in
theorem ggX1_merge_X1_may : GoodIn wsX1_merge wsX1_may := goodIn_r _ [15, 16, 25, 26, 27, 28, 29] (by decide +kernel) (by decide +kernel)
set_option maxRecDepth 20000 in
theorem gX1_merge_X1_may : GoodIn wsX1_merge (wsV RX1 40 RX1 yX1_may wsX1_may) := goodIn_app (goodIn_of _ (by decide +kernel)) ggX1_merge_X1_may
set_option maxRecDepth 20000 in
theorem ggX1_merge_X1_at : GoodIn wsX1_merge wsX1_at := goodIn_r _ [20, 1, 25, 26, 27, 28, 29] (by decide +kernel) (by decide +kernel)
set_option maxRecDepth 20000 in
theorem gX1_merge_X1_at : GoodIn wsX1_merge (wsV RX1 44 RX1 yX1_at wsX1_at) := goodIn_app (goodIn_of _ (by decide +kernel)) ggX1_merge_X1_at
set_option maxRecDepth 20000 in
theorem ggX1_merge_X1_isTrue : GoodIn wsX1_merge wsX1_isTrue := goodIn_r _ [23, 24] (by decide +kernel) (by decide +kernel)
set_option maxRecDepth 20000 in
theorem gX1_merge_X1_isTrue : GoodIn wsX1_merge (va_wsS RX1 61 yX1_isTrue wsX1_isTrue) := goodIn_app (goodIn_of _ (by decide +kernel)) ggX1_merge_X1_isTrue
theorem dX1_merge_0 : decode cX1_merge 0 = .ok (.aload_n 0, 1) := by decide +kernel
theorem dX1_merge_1 : decode cX1_merge 1 = .ok (.iload_n 1, 1) := by decide +kernel
theorem dX1_merge_2 : decode cX1_merge 2 = .ok (.invokestatic 30, 3) := by decide +kernel
theorem dX1_merge_5 : decode cX1_merge 5 = .ok (.ifCond .eq 21, 3) := by decide +kernel
theorem dX1_merge_8 : decode cX1_merge 8 = .ok (.iload_n 2, 1) := by decide +kernel
theorem dX1_merge_9 : decode cX1_merge 9 = .ok (.invokestatic 30, 3) := by decide +kernel
theorem dX1_merge_12 : decode cX1_merge 12 = .ok (.ifCond .eq 14, 3) := by decide +kernel
theorem dX1_merge_15 : decode cX1_merge 15 = .ok (.iload_n 3, 1) := by decide +kernel
theorem dX1_merge_16 : decode cX1_merge 16 = .ok (.invokestatic 30, 3) := by decide +kernel
theorem dX1_merge_19 : decode cX1_merge 19 = .ok (.ifCond .eq 7, 3) := by decide +kernel
theorem dX1_merge_22 : decode cX1_merge 22 = .ok (.iconst 1, 1) := by decide +kernel
theorem dX1_merge_23 : decode cX1_merge 23 = .ok (.goto 4, 3) := by decide +kernel
theorem dX1_merge_26 : decode cX1_merge 26 = .ok (.iconst 0, 1) := by decide +kernel
theorem dX1_merge_27 : decode cX1_merge 27 = .ok (.iload 4, 2) := by decide +kernel
theorem dX1_merge_29 : decode cX1_merge 29 = .ok (.invokestatic 55, 3) := by decide +kernel
theorem dX1_merge_32 : decode cX1_merge 32 = .ok (.ifCond .eq 33, 3) := by decide +kernel
theorem dX1_merge_35 : decode cX1_merge 35 = .ok (.iload_n 1, 1) := by decide +kernel
theorem dX1_merge_36 : decode cX1_merge 36 = .ok (.iload_n 2, 1) := by decide +kernel
theorem dX1_merge_37 : decode cX1_merge 37 = .ok (.invokestatic 51, 3) := by decide +kernel
theorem dX1_merge_40 : decode cX1_merge 40 = .ok (.ifCond .eq 25, 3) := by decide +kernel
theorem dX1_merge_43 : decode cX1_merge 43 = .ok (.iload_n 1, 1) := by decide +kernel
theorem dX1_merge_44 : decode cX1_merge 44 = .ok (.iload_n 3, 1) := by decide +kernel
theorem dX1_merge_45 : decode cX1_merge 45 = .ok (.invokestatic 51, 3) := by decide +kernel
theorem dX1_merge_48 : decode cX1_merge 48 = .ok (.ifCond .eq 17, 3) := by decide +kernel
theorem dX1_merge_51 : decode cX1_merge 51 = .ok (.iload_n 3, 1) := by decide +kernel
theorem dX1_merge_52 : decode cX1_merge 52 = .ok (.iload_n 1, 1) := by decide +kernel
theorem dX1_merge_53 : decode cX1_merge 53 = .ok (.if_icmp .eq 12, 3) := by decide +kernel
theorem dX1_merge_56 : decode cX1_merge 56 = .ok (.iload_n 3, 1) := by decide +kernel
theorem dX1_merge_57 : decode cX1_merge 57 = .ok (.iload_n 2, 1) := by decide +kernel
theorem dX1_merge_58 : decode cX1_merge 58 = .ok (.if_icmp .eq 7, 3) := by decide +kernel
theorem dX1_merge_61 : decode cX1_merge 61 = .ok (.iconst 1, 1) := by decide +kernel
theorem dX1_merge_62 : decode cX1_merge 62 = .ok (.goto 4, 3) := by decide +kernel
theorem dX1_merge_65 : decode cX1_merge 65 = .ok (.iconst 0, 1) := by decide +kernel
theorem dX1_merge_66 : decode cX1_merge 66 = .ok (.invokevirtual 40, 3) := by decide +kernel
theorem dX1_merge_69 : decode cX1_merge 69 = .ok (.ifCond .ne 5, 3) := by decide +kernel
theorem dX1_merge_72 : decode cX1_merge 72 = .ok (.iconst 0, 1) := by decide +kernel
theorem dX1_merge_73 : decode cX1_merge 73 = .ok (.ireturn, 1) := by decide +kernel
theorem dX1_merge_74 : decode cX1_merge 74 = .ok (.iconst 0, 1) := by decide +kernel
theorem dX1_merge_75 : decode cX1_merge 75 = .ok (.istore 5, 2) := by decide +kernel
theorem dX1_merge_77 : decode cX1_merge 77 = .ok (.iconst 0, 1) := by decide +kernel
theorem dX1_merge_78 : decode cX1_merge 78 = .ok (.istore 6, 2) := by decide +kernel
theorem dX1_merge_80 : decode cX1_merge 80 = .ok (.iload 6, 2) := by decide +kernel
theorem dX1_merge_82 : decode cX1_merge 82 = .ok (.bipush 12, 2) := by decide +kernel
theorem dX1_merge_84 : decode cX1_merge 84 = .ok (.if_icmp .ge 80, 3) := by decide +kernel
theorem dX1_merge_87 : decode cX1_merge 87 = .ok (.aload_n 0, 1) := by decide +kernel
theorem dX1_merge_88 : decode cX1_merge 88 = .ok (.iload_n 1, 1) := by decide +kernel
theorem dX1_merge_89 : decode cX1_merge 89 = .ok (.iload 5, 2) := by decide +kernel
theorem dX1_merge_91 : decode cX1_merge 91 = .ok (.invokevirtual 44, 3) := by decide +kernel
theorem dX1_merge_94 : decode cX1_merge 94 = .ok (.istore 7, 2) := by decide +kernel
theorem dX1_merge_96 : decode cX1_merge 96 = .ok (.aload_n 0, 1) := by decide +kernel
theorem dX1_merge_97 : decode cX1_merge 97 = .ok (.iload_n 2, 1) := by decide +kernel
theorem dX1_merge_98 : decode cX1_merge 98 = .ok (.iload 6, 2) := by decide +kernel
theorem dX1_merge_100 : decode cX1_merge 100 = .ok (.iload 5, 2) := by decide +kernel
theorem dX1_merge_102 : decode cX1_merge 102 = .ok (.isub, 1) := by decide +kernel
theorem dX1_merge_103 : decode cX1_merge 103 = .ok (.invokevirtual 44, 3) := by decide +kernel
theorem dX1_merge_106 : decode cX1_merge 106 = .ok (.istore 8, 2) := by decide +kernel
theorem dX1_merge_108 : decode cX1_merge 108 = .ok (.iload 4, 2) := by decide +kernel
theorem dX1_merge_110 : decode cX1_merge 110 = .ok (.iload 7, 2) := by decide +kernel
theorem dX1_merge_112 : decode cX1_merge 112 = .ok (.iload 8, 2) := by decide +kernel
theorem dX1_merge_114 : decode cX1_merge 114 = .ok (.invokestatic 61, 3) := by decide +kernel
theorem dX1_merge_117 : decode cX1_merge 117 = .ok (.istore 9, 2) := by decide +kernel
theorem dX1_merge_119 : decode cX1_merge 119 = .ok (.aload_n 0, 1) := by decide +kernel
theorem dX1_merge_120 : decode cX1_merge 120 = .ok (.getfield 7, 3) := by decide +kernel
theorem dX1_merge_123 : decode cX1_merge 123 = .ok (.bipush 12, 2) := by decide +kernel
theorem dX1_merge_125 : decode cX1_merge 125 = .ok (.iload_n 3, 1) := by decide +kernel
theorem dX1_merge_126 : decode cX1_merge 126 = .ok (.imul, 1) := by decide +kernel
theorem dX1_merge_127 : decode cX1_merge 127 = .ok (.iload 6, 2) := by decide +kernel
theorem dX1_merge_129 : decode cX1_merge 129 = .ok (.iadd, 1) := by decide +kernel
theorem dX1_merge_130 : decode cX1_merge 130 = .ok (.iload 9, 2) := by decide +kernel
theorem dX1_merge_132 : decode cX1_merge 132 = .ok (.ifCond .eq 8, 3) := by decide +kernel
theorem dX1_merge_135 : decode cX1_merge 135 = .ok (.iload 7, 2) := by decide +kernel
theorem dX1_merge_137 : decode cX1_merge 137 = .ok (.goto 5, 3) := by decide +kernel
theorem dX1_merge_140 : decode cX1_merge 140 = .ok (.iload 8, 2) := by decide +kernel
theorem dX1_merge_142 : decode cX1_merge 142 = .ok (.iastore, 1) := by decide +kernel
theorem dX1_merge_143 : decode cX1_merge 143 = .ok (.iload 5, 2) := by decide +kernel
theorem dX1_merge_145 : decode cX1_merge 145 = .ok (.iload 9, 2) := by decide +kernel
theorem dX1_merge_147 : decode cX1_merge 147 = .ok (.ifCond .eq 7, 3) := by decide +kernel
theorem dX1_merge_150 : decode cX1_merge 150 = .ok (.iconst 1, 1) := by decide +kernel
theorem dX1_merge_151 : decode cX1_merge 151 = .ok (.goto 4, 3) := by decide +kernel
theorem dX1_merge_154 : decode cX1_merge 154 = .ok (.iconst 0, 1) := by decide +kernel
theorem dX1_merge_155 : decode cX1_merge 155 = .ok (.iadd, 1) := by decide +kernel
theorem dX1_merge_156 : decode cX1_merge 156 = .ok (.istore 5, 2) := by decide +kernel
theorem dX1_merge_158 : decode cX1_merge 158 = .ok (.iinc 6 1, 3) := by decide +kernel
theorem dX1_merge_161 : decode cX1_merge 161 = .ok (.goto (-81), 3) := by decide +kernel
theorem dX1_merge_164 : decode cX1_merge 164 = .ok (.iload 5, 2) := by decide +kernel
theorem dX1_merge_166 : decode cX1_merge 166 = .ok (.ireturn, 1) := by decide +kernel
theorem dJ6_bitCount_0f7a4_0 : decode cJ6_bitCount_0f7a4 0 = .ok (.iload_n 0, 1) := by decide +kernel
theorem dJ6_bitCount_0f7a4_1 : decode cJ6_bitCount_0f7a4 1 = .ok (.iload_n 0, 1) := by decide +kernel
theorem dJ6_bitCount_0f7a4_2 : decode cJ6_bitCount_0f7a4 2 = .ok (.iconst 1, 1) := by decide +kernel
theorem dJ6_bitCount_0f7a4_3 : decode cJ6_bitCount_0f7a4 3 = .ok (.iushr, 1) := by decide +kernel
theorem dJ6_bitCount_0f7a4_4 : decode cJ6_bitCount_0f7a4 4 = .ok (.ldc_w 265, 3) := by decide +kernel
theorem dJ6_bitCount_0f7a4_7 : decode cJ6_bitCount_0f7a4 7 = .ok (.iand, 1) := by decide +kernel
theorem dJ6_bitCount_0f7a4_8 : decode cJ6_bitCount_0f7a4 8 = .ok (.isub, 1) := by decide +kernel
theorem dJ6_bitCount_0f7a4_9 : decode cJ6_bitCount_0f7a4 9 = .ok (.istore_n 0, 1) := by decide +kernel
theorem dJ6_bitCount_0f7a4_10 : decode cJ6_bitCount_0f7a4 10 = .ok (.iload_n 0, 1) := by decide +kernel
theorem dJ6_bitCount_0f7a4_11 : decode cJ6_bitCount_0f7a4 11 = .ok (.ldc_w 266, 3) := by decide +kernel
theorem dJ6_bitCount_0f7a4_14 : decode cJ6_bitCount_0f7a4 14 = .ok (.iand, 1) := by decide +kernel
theorem dJ6_bitCount_0f7a4_15 : decode cJ6_bitCount_0f7a4 15 = .ok (.iload_n 0, 1) := by decide +kernel
theorem dJ6_bitCount_0f7a4_16 : decode cJ6_bitCount_0f7a4 16 = .ok (.iconst 2, 1) := by decide +kernel
theorem dJ6_bitCount_0f7a4_17 : decode cJ6_bitCount_0f7a4 17 = .ok (.iushr, 1) := by decide +kernel
theorem dJ6_bitCount_0f7a4_18 : decode cJ6_bitCount_0f7a4 18 = .ok (.ldc_w 266, 3) := by decide +kernel
theorem dJ6_bitCount_0f7a4_21 : decode cJ6_bitCount_0f7a4 21 = .ok (.iand, 1) := by decide +kernel
theorem dJ6_bitCount_0f7a4_22 : decode cJ6_bitCount_0f7a4 22 = .ok (.iadd, 1) := by decide +kernel
theorem dJ6_bitCount_0f7a4_23 : decode cJ6_bitCount_0f7a4 23 = .ok (.istore_n 0, 1) := by decide +kernel
theorem dJ6_bitCount_0f7a4_24 : decode cJ6_bitCount_0f7a4 24 = .ok (.iload_n 0, 1) := by decide +kernel
theorem dJ6_bitCount_0f7a4_25 : decode cJ6_bitCount_0f7a4 25 = .ok (.iload_n 0, 1) := by decide +kernel
theorem dJ6_bitCount_0f7a4_26 : decode cJ6_bitCount_0f7a4 26 = .ok (.iconst 4, 1) := by decide +kernel
theorem dJ6_bitCount_0f7a4_27 : decode cJ6_bitCount_0f7a4 27 = .ok (.iushr, 1) := by decide +kernel
theorem dJ6_bitCount_0f7a4_28 : decode cJ6_bitCount_0f7a4 28 = .ok (.iadd, 1) := by decide +kernel
theorem dJ6_bitCount_0f7a4_29 : decode cJ6_bitCount_0f7a4 29 = .ok (.ldc_w 267, 3) := by decide +kernel
theorem dJ6_bitCount_0f7a4_32 : decode cJ6_bitCount_0f7a4 32 = .ok (.iand, 1) := by decide +kernel
theorem dJ6_bitCount_0f7a4_33 : decode cJ6_bitCount_0f7a4 33 = .ok (.istore_n 0, 1) := by decide +kernel
theorem dJ6_bitCount_0f7a4_34 : decode cJ6_bitCount_0f7a4 34 = .ok (.iload_n 0, 1) := by decide +kernel
theorem dJ6_bitCount_0f7a4_35 : decode cJ6_bitCount_0f7a4 35 = .ok (.iload_n 0, 1) := by decide +kernel
theorem dJ6_bitCount_0f7a4_36 : decode cJ6_bitCount_0f7a4 36 = .ok (.bipush 8, 2) := by decide +kernel
theorem dJ6_bitCount_0f7a4_38 : decode cJ6_bitCount_0f7a4 38 = .ok (.iushr, 1) := by decide +kernel
theorem dJ6_bitCount_0f7a4_39 : decode cJ6_bitCount_0f7a4 39 = .ok (.iadd, 1) := by decide +kernel
theorem dJ6_bitCount_0f7a4_40 : decode cJ6_bitCount_0f7a4 40 = .ok (.istore_n 0, 1) := by decide +kernel
theorem dJ6_bitCount_0f7a4_41 : decode cJ6_bitCount_0f7a4 41 = .ok (.iload_n 0, 1) := by decide +kernel
theorem dJ6_bitCount_0f7a4_42 : decode cJ6_bitCount_0f7a4 42 = .ok (.iload_n 0, 1) := by decide +kernel
theorem dJ6_bitCount_0f7a4_43 : decode cJ6_bitCount_0f7a4 43 = .ok (.bipush 16, 2) := by decide +kernel
theorem dJ6_bitCount_0f7a4_45 : decode cJ6_bitCount_0f7a4 45 = .ok (.iushr, 1) := by decide +kernel
theorem dJ6_bitCount_0f7a4_46 : decode cJ6_bitCount_0f7a4 46 = .ok (.iadd, 1) := by decide +kernel
theorem dJ6_bitCount_0f7a4_47 : decode cJ6_bitCount_0f7a4 47 = .ok (.istore_n 0, 1) := by decide +kernel
theorem dJ6_bitCount_0f7a4_48 : decode cJ6_bitCount_0f7a4 48 = .ok (.iload_n 0, 1) := by decide +kernel
theorem dJ6_bitCount_0f7a4_49 : decode cJ6_bitCount_0f7a4 49 = .ok (.bipush 63, 2) := by decide +kernel
theorem dJ6_bitCount_0f7a4_51 : decode cJ6_bitCount_0f7a4 51 = .ok (.iand, 1) := by decide +kernel
theorem dJ6_bitCount_0f7a4_52 : decode cJ6_bitCount_0f7a4 52 = .ok (.ireturn, 1) := by decide +kernel
theorem dJ7_fill_53178_0 : decode cJ7_fill_53178 0 = .ok (.iconst 0, 1) := by decide +kernel
theorem dJ7_fill_53178_1 : decode cJ7_fill_53178 1 = .ok (.istore_n 2, 1) := by decide +kernel
theorem dJ7_fill_53178_2 : decode cJ7_fill_53178 2 = .ok (.aload_n 0, 1) := by decide +kernel
theorem dJ7_fill_53178_3 : decode cJ7_fill_53178 3 = .ok (.arraylength, 1) := by decide +kernel
theorem dJ7_fill_53178_4 : decode cJ7_fill_53178 4 = .ok (.istore_n 3, 1) := by decide +kernel
theorem dJ7_fill_53178_5 : decode cJ7_fill_53178 5 = .ok (.iload_n 2, 1) := by decide +kernel
theorem dJ7_fill_53178_6 : decode cJ7_fill_53178 6 = .ok (.iload_n 3, 1) := by decide +kernel
theorem dJ7_fill_53178_7 : decode cJ7_fill_53178 7 = .ok (.if_icmp .ge 13, 3) := by decide +kernel
theorem dJ7_fill_53178_10 : decode cJ7_fill_53178 10 = .ok (.aload_n 0, 1) := by decide +kernel
theorem dJ7_fill_53178_11 : decode cJ7_fill_53178 11 = .ok (.iload_n 2, 1) := by decide +kernel
theorem dJ7_fill_53178_12 : decode cJ7_fill_53178 12 = .ok (.iload_n 1, 1) := by decide +kernel
theorem dJ7_fill_53178_13 : decode cJ7_fill_53178 13 = .ok (.iastore, 1) := by decide +kernel
theorem dJ7_fill_53178_14 : decode cJ7_fill_53178 14 = .ok (.iinc 2 1, 3) := by decide +kernel
theorem dJ7_fill_53178_17 : decode cJ7_fill_53178 17 = .ok (.goto (-12), 3) := by decide +kernel
theorem dJ7_fill_53178_20 : decode cJ7_fill_53178 20 = .ok (.return_, 1) := by decide +kernel
