theorem dX0_init_0 : decode cX0_init 0 = .ok (.aload_n 0, 1) := by decide +kernel
theorem dX0_init_1 : decode cX0_init 1 = .ok (.invokespecial 3, 3) := by decide +kernel
theorem dX0_init_4 : decode cX0_init 4 = .ok (.aload_n 0, 1) := by decide +kernel
theorem dX0_init_5 : decode cX0_init 5 = .ok (.bipush 100, 2) := by decide +kernel
theorem dX0_init_7 : decode cX0_init 7 = .ok (.newarray .int, 2) := by decide +kernel
theorem dX0_init_9 : decode cX0_init 9 = .ok (.putfield 9, 3) := by decide +kernel
theorem dX0_init_12 : decode cX0_init 12 = .ok (.aload_n 0, 1) := by decide +kernel
theorem dX0_init_13 : decode cX0_init 13 = .ok (.iconst 0, 1) := by decide +kernel
theorem dX0_init_14 : decode cX0_init 14 = .ok (.putfield 15, 3) := by decide +kernel
theorem dX0_init_17 : decode cX0_init 17 = .ok (.aload_n 0, 1) := by decide +kernel
theorem dX0_init_18 : decode cX0_init 18 = .ok (.iconst 0, 1) := by decide +kernel
theorem dX0_init_19 : decode cX0_init 19 = .ok (.putfield 19, 3) := by decide +kernel
theorem dX0_init_22 : decode cX0_init 22 = .ok (.return_, 1) := by decide +kernel
theorem dX0_record_0 : decode cX0_record 0 = .ok (.aload_n 0, 1) := by decide +kernel
theorem dX0_record_1 : decode cX0_record 1 = .ok (.getfield 19, 3) := by decide +kernel
theorem dX0_record_4 : decode cX0_record 4 = .ok (.bipush 100, 2) := by decide +kernel
theorem dX0_record_6 : decode cX0_record 6 = .ok (.if_icmp .ge 31, 3) := by decide +kernel
theorem dX0_record_9 : decode cX0_record 9 = .ok (.aload_n 0, 1) := by decide +kernel
theorem dX0_record_10 : decode cX0_record 10 = .ok (.getfield 9, 3) := by decide +kernel
theorem dX0_record_13 : decode cX0_record 13 = .ok (.aload_n 0, 1) := by decide +kernel
theorem dX0_record_14 : decode cX0_record 14 = .ok (.getfield 19, 3) := by decide +kernel
theorem dX0_record_17 : decode cX0_record 17 = .ok (.iload_n 1, 1) := by decide +kernel
theorem dX0_record_18 : decode cX0_record 18 = .ok (.iastore, 1) := by decide +kernel
theorem dX0_record_19 : decode cX0_record 19 = .ok (.aload_n 0, 1) := by decide +kernel
theorem dX0_record_20 : decode cX0_record 20 = .ok (.dup, 1) := by decide +kernel
theorem dX0_record_21 : decode cX0_record 21 = .ok (.getfield 19, 3) := by decide +kernel
theorem dX0_record_24 : decode cX0_record 24 = .ok (.iconst 1, 1) := by decide +kernel
theorem dX0_record_25 : decode cX0_record 25 = .ok (.iadd, 1) := by decide +kernel
theorem dX0_record_26 : decode cX0_record 26 = .ok (.putfield 19, 3) := by decide +kernel
theorem dX0_record_29 : decode cX0_record 29 = .ok (.aload_n 0, 1) := by decide +kernel
theorem dX0_record_30 : decode cX0_record 30 = .ok (.aload_n 0, 1) := by decide +kernel
theorem dX0_record_31 : decode cX0_record 31 = .ok (.getfield 19, 3) := by decide +kernel
theorem dX0_record_34 : decode cX0_record 34 = .ok (.putfield 15, 3) := by decide +kernel
theorem dX0_record_37 : decode cX0_record 37 = .ok (.return_, 1) := by decide +kernel
theorem dX0_pass_0 : decode cX0_pass 0 = .ok (.aload_n 0, 1) := by decide +kernel
theorem dX0_pass_1 : decode cX0_pass 1 = .ok (.getfield 19, 3) := by decide +kernel
theorem dX0_pass_4 : decode cX0_pass 4 = .ok (.aload_n 0, 1) := by decide +kernel
theorem dX0_pass_5 : decode cX0_pass 5 = .ok (.getfield 15, 3) := by decide +kernel
theorem dX0_pass_8 : decode cX0_pass 8 = .ok (.if_icmp .lt 5, 3) := by decide +kernel
theorem dX0_pass_11 : decode cX0_pass 11 = .ok (.iconst (-1), 1) := by decide +kernel
theorem dX0_pass_12 : decode cX0_pass 12 = .ok (.ireturn, 1) := by decide +kernel
theorem dX0_pass_13 : decode cX0_pass 13 = .ok (.aload_n 0, 1) := by decide +kernel
theorem dX0_pass_14 : decode cX0_pass 14 = .ok (.getfield 9, 3) := by decide +kernel
theorem dX0_pass_17 : decode cX0_pass 17 = .ok (.aload_n 0, 1) := by decide +kernel
theorem dX0_pass_18 : decode cX0_pass 18 = .ok (.getfield 19, 3) := by decide +kernel
theorem dX0_pass_21 : decode cX0_pass 21 = .ok (.iaload, 1) := by decide +kernel
theorem dX0_pass_22 : decode cX0_pass 22 = .ok (.istore_n 1, 1) := by decide +kernel
theorem dX0_pass_23 : decode cX0_pass 23 = .ok (.aload_n 0, 1) := by decide +kernel
theorem dX0_pass_24 : decode cX0_pass 24 = .ok (.dup, 1) := by decide +kernel
theorem dX0_pass_25 : decode cX0_pass 25 = .ok (.getfield 19, 3) := by decide +kernel
theorem dX0_pass_28 : decode cX0_pass 28 = .ok (.iconst 1, 1) := by decide +kernel
theorem dX0_pass_29 : decode cX0_pass 29 = .ok (.iadd, 1) := by decide +kernel
theorem dX0_pass_30 : decode cX0_pass 30 = .ok (.putfield 19, 3) := by decide +kernel
theorem dX0_pass_33 : decode cX0_pass 33 = .ok (.iload_n 1, 1) := by decide +kernel
theorem dX0_pass_34 : decode cX0_pass 34 = .ok (.ireturn, 1) := by decide +kernel
set_option maxRecDepth 20000 in
theorem ggX1_init_X1_setSums : GoodIn wsX1_init wsX1_setSums := goodIn_r _ [19, 5, 9, 20, 21, 22, 18, 23, 24, 25, 26, 27, 7, 28, 29, 30, 31, 32, 33, 34, 35, 36, 37] (by decide +kernel) (by decide +kernel)
set_option maxRecDepth 20000 in
theorem gX1_init_X1_setSums : GoodIn wsX1_init (wsV RX1 41 RX1 yX1_setSums wsX1_setSums) := goodIn_app (goodIn_of _ (by decide +kernel)) ggX1_init_X1_setSums
theorem dX1_init_0 : decode cX1_init 0 = .ok (.aload_n 0, 1) := by decide +kernel
theorem dX1_init_1 : decode cX1_init 1 = .ok (.invokespecial 3, 3) := by decide +kernel
theorem dX1_init_4 : decode cX1_init 4 = .ok (.iload_n 1, 1) := by decide +kernel
theorem dX1_init_5 : decode cX1_init 5 = .ok (.iconst 2, 1) := by decide +kernel
theorem dX1_init_6 : decode cX1_init 6 = .ok (.iadd, 1) := by decide +kernel
theorem dX1_init_7 : decode cX1_init 7 = .ok (.istore_n 3, 1) := by decide +kernel
theorem dX1_init_8 : decode cX1_init 8 = .ok (.aload_n 0, 1) := by decide +kernel
theorem dX1_init_9 : decode cX1_init 9 = .ok (.iload_n 1, 1) := by decide +kernel
theorem dX1_init_10 : decode cX1_init 10 = .ok (.putfield 9, 3) := by decide +kernel
theorem dX1_init_13 : decode cX1_init 13 = .ok (.aload_n 0, 1) := by decide +kernel
theorem dX1_init_14 : decode cX1_init 14 = .ok (.iload_n 2, 1) := by decide +kernel
theorem dX1_init_15 : decode cX1_init 15 = .ok (.putfield 15, 3) := by decide +kernel
theorem dX1_init_18 : decode cX1_init 18 = .ok (.aload_n 0, 1) := by decide +kernel
theorem dX1_init_19 : decode cX1_init 19 = .ok (.iload_n 3, 1) := by decide +kernel
theorem dX1_init_20 : decode cX1_init 20 = .ok (.iload_n 2, 1) := by decide +kernel
theorem dX1_init_21 : decode cX1_init 21 = .ok (.imul, 1) := by decide +kernel
theorem dX1_init_22 : decode cX1_init 22 = .ok (.bipush 16, 2) := by decide +kernel
theorem dX1_init_24 : decode cX1_init 24 = .ok (.imul, 1) := by decide +kernel
theorem dX1_init_25 : decode cX1_init 25 = .ok (.newarray .byte, 2) := by decide +kernel
theorem dX1_init_27 : decode cX1_init 27 = .ok (.putfield 18, 3) := by decide +kernel
theorem dX1_init_30 : decode cX1_init 30 = .ok (.aload_n 0, 1) := by decide +kernel
theorem dX1_init_31 : decode cX1_init 31 = .ok (.iload_n 3, 1) := by decide +kernel
theorem dX1_init_32 : decode cX1_init 32 = .ok (.iload_n 2, 1) := by decide +kernel
theorem dX1_init_33 : decode cX1_init 33 = .ok (.imul, 1) := by decide +kernel
theorem dX1_init_34 : decode cX1_init 34 = .ok (.newarray .int, 2) := by decide +kernel
theorem dX1_init_36 : decode cX1_init 36 = .ok (.putfield 22, 3) := by decide +kernel
theorem dX1_init_39 : decode cX1_init 39 = .ok (.aload_n 0, 1) := by decide +kernel
theorem dX1_init_40 : decode cX1_init 40 = .ok (.iload_n 1, 1) := by decide +kernel
theorem dX1_init_41 : decode cX1_init 41 = .ok (.newarray .int, 2) := by decide +kernel
theorem dX1_init_43 : decode cX1_init 43 = .ok (.putfield 26, 3) := by decide +kernel
theorem dX1_init_46 : decode cX1_init 46 = .ok (.aload_n 0, 1) := by decide +kernel
theorem dX1_init_47 : decode cX1_init 47 = .ok (.iload_n 1, 1) := by decide +kernel
theorem dX1_init_48 : decode cX1_init 48 = .ok (.newarray .int, 2) := by decide +kernel
theorem dX1_init_50 : decode cX1_init 50 = .ok (.putfield 29, 3) := by decide +kernel
theorem dX1_init_53 : decode cX1_init 53 = .ok (.aload_n 0, 1) := by decide +kernel
theorem dX1_init_54 : decode cX1_init 54 = .ok (.iload_n 1, 1) := by decide +kernel
theorem dX1_init_55 : decode cX1_init 55 = .ok (.newarray .int, 2) := by decide +kernel
theorem dX1_init_57 : decode cX1_init 57 = .ok (.putfield 32, 3) := by decide +kernel
theorem dX1_init_60 : decode cX1_init 60 = .ok (.aload_n 0, 1) := by decide +kernel
theorem dX1_init_61 : decode cX1_init 61 = .ok (.iconst 0, 1) := by decide +kernel
theorem dX1_init_62 : decode cX1_init 62 = .ok (.putfield 35, 3) := by decide +kernel
theorem dX1_init_65 : decode cX1_init 65 = .ok (.aload_n 0, 1) := by decide +kernel
theorem dX1_init_66 : decode cX1_init 66 = .ok (.iconst 0, 1) := by decide +kernel
theorem dX1_init_67 : decode cX1_init 67 = .ok (.putfield 38, 3) := by decide +kernel
theorem dX1_init_70 : decode cX1_init 70 = .ok (.iconst 0, 1) := by decide +kernel
theorem dX1_init_71 : decode cX1_init 71 = .ok (.istore 4, 2) := by decide +kernel
theorem dX1_init_73 : decode cX1_init 73 = .ok (.iload 4, 2) := by decide +kernel
theorem dX1_init_75 : decode cX1_init 75 = .ok (.iload_n 1, 1) := by decide +kernel
theorem dX1_init_76 : decode cX1_init 76 = .ok (.if_icmp .ge 18, 3) := by decide +kernel
theorem dX1_init_79 : decode cX1_init 79 = .ok (.aload_n 0, 1) := by decide +kernel
theorem dX1_init_80 : decode cX1_init 80 = .ok (.getfield 26, 3) := by decide +kernel
theorem dX1_init_83 : decode cX1_init 83 = .ok (.iload 4, 2) := by decide +kernel
theorem dX1_init_85 : decode cX1_init 85 = .ok (.iload 4, 2) := by decide +kernel
theorem dX1_init_87 : decode cX1_init 87 = .ok (.iastore, 1) := by decide +kernel
theorem dX1_init_88 : decode cX1_init 88 = .ok (.iinc 4 1, 3) := by decide +kernel
theorem dX1_init_91 : decode cX1_init 91 = .ok (.goto (-18), 3) := by decide +kernel
theorem dX1_init_94 : decode cX1_init 94 = .ok (.iconst 0, 1) := by decide +kernel
theorem dX1_init_95 : decode cX1_init 95 = .ok (.istore 4, 2) := by decide +kernel
theorem dX1_init_97 : decode cX1_init 97 = .ok (.iload 4, 2) := by decide +kernel
theorem dX1_init_99 : decode cX1_init 99 = .ok (.iload_n 3, 1) := by decide +kernel
theorem dX1_init_100 : decode cX1_init 100 = .ok (.if_icmp .ge 15, 3) := by decide +kernel
theorem dX1_init_103 : decode cX1_init 103 = .ok (.aload_n 0, 1) := by decide +kernel
theorem dX1_init_104 : decode cX1_init 104 = .ok (.iload 4, 2) := by decide +kernel
theorem dX1_init_106 : decode cX1_init 106 = .ok (.invokevirtual 41, 3) := by decide +kernel
theorem dX1_init_109 : decode cX1_init 109 = .ok (.iinc 4 1, 3) := by decide +kernel
theorem dX1_init_112 : decode cX1_init 112 = .ok (.goto (-15), 3) := by decide +kernel
theorem dX1_init_115 : decode cX1_init 115 = .ok (.return_, 1) := by decide +kernel
set_option maxRecDepth 20000 in
theorem ggX1_firstByte_X1_slot : GoodIn wsX1_firstByte wsX1_slot := goodIn_r _ [6, 7, 8, 9, 10, 11, 12, 13, 14, 15, 16] (by decide +kernel) (by decide +kernel)
set_option maxRecDepth 20000 in
theorem gX1_firstByte_X1_slot : GoodIn wsX1_firstByte (wsV RX1 45 RX1 yX1_slot wsX1_slot) := goodIn_app (goodIn_of _ (by decide +kernel)) ggX1_firstByte_X1_slot
theorem dX1_firstByte_0 : decode cX1_firstByte 0 = .ok (.aload_n 0, 1) := by decide +kernel
theorem dX1_firstByte_1 : decode cX1_firstByte 1 = .ok (.aload_n 0, 1) := by decide +kernel
theorem dX1_firstByte_2 : decode cX1_firstByte 2 = .ok (.getfield 26, 3) := by decide +kernel
theorem dX1_firstByte_5 : decode cX1_firstByte 5 = .ok (.iload_n 1, 1) := by decide +kernel
theorem dX1_firstByte_6 : decode cX1_firstByte 6 = .ok (.iaload, 1) := by decide +kernel
theorem dX1_firstByte_7 : decode cX1_firstByte 7 = .ok (.iload_n 2, 1) := by decide +kernel
theorem dX1_firstByte_8 : decode cX1_firstByte 8 = .ok (.invokevirtual 45, 3) := by decide +kernel
theorem dX1_firstByte_11 : decode cX1_firstByte 11 = .ok (.bipush 16, 2) := by decide +kernel
theorem dX1_firstByte_13 : decode cX1_firstByte 13 = .ok (.imul, 1) := by decide +kernel
theorem dX1_firstByte_14 : decode cX1_firstByte 14 = .ok (.ireturn, 1) := by decide +kernel
set_option maxRecDepth 20000 in
theorem ggX1_lay_X1_fill : GoodIn wsX1_lay wsX1_fill := goodIn_r _ [9, 10, 11, 12, 13, 8, 14, 1, 15, 16, 17, 18, 19, 25, 26, 27, 28, 29, 30, 31, 32, 33] (by decide +kernel) (by decide +kernel)
set_option maxRecDepth 20000 in
theorem gX1_lay_X1_fill : GoodIn wsX1_lay (wsV RX1 49 RX1 yX1_fill wsX1_fill) := goodIn_app (goodIn_of _ (by decide +kernel)) ggX1_lay_X1_fill
set_option maxRecDepth 20000 in
theorem ggX1_lay_X1_slot : GoodIn wsX1_lay wsX1_slot := goodIn_r _ [18, 19, 25, 26, 27, 28, 29, 30, 31, 32, 33] (by decide +kernel) (by decide +kernel)
set_option maxRecDepth 20000 in
theorem gX1_lay_X1_slot : GoodIn wsX1_lay (wsV RX1 45 RX1 yX1_slot wsX1_slot) := goodIn_app (goodIn_of _ (by decide +kernel)) ggX1_lay_X1_slot
set_option maxRecDepth 20000 in
theorem ggX1_lay_X1_sumOf : GoodIn wsX1_lay wsX1_sumOf := goodIn_r _ [23, 10, 24, 15, 16, 17, 8, 18, 19, 25, 26, 27, 28, 29, 30, 31, 32, 33] (by decide +kernel) (by decide +kernel)
set_option maxRecDepth 20000 in
theorem gX1_lay_X1_sumOf : GoodIn wsX1_lay (wsV RX1 53 RX1 yX1_sumOf wsX1_sumOf) := goodIn_app (goodIn_of _ (by decide +kernel)) ggX1_lay_X1_sumOf
theorem dX1_lay_0 : decode cX1_lay 0 = .ok (.aload_n 0, 1) := by decide +kernel
theorem dX1_lay_1 : decode cX1_lay 1 = .ok (.iload_n 1, 1) := by decide +kernel
theorem dX1_lay_2 : decode cX1_lay 2 = .ok (.iload_n 2, 1) := by decide +kernel
theorem dX1_lay_3 : decode cX1_lay 3 = .ok (.iload_n 3, 1) := by decide +kernel
theorem dX1_lay_4 : decode cX1_lay 4 = .ok (.bipush 16, 2) := by decide +kernel
theorem dX1_lay_6 : decode cX1_lay 6 = .ok (.invokevirtual 49, 3) := by decide +kernel
theorem dX1_lay_9 : decode cX1_lay 9 = .ok (.aload_n 0, 1) := by decide +kernel
theorem dX1_lay_10 : decode cX1_lay 10 = .ok (.getfield 26, 3) := by decide +kernel
theorem dX1_lay_13 : decode cX1_lay 13 = .ok (.iload_n 1, 1) := by decide +kernel
theorem dX1_lay_14 : decode cX1_lay 14 = .ok (.iaload, 1) := by decide +kernel
theorem dX1_lay_15 : decode cX1_lay 15 = .ok (.istore 4, 2) := by decide +kernel
theorem dX1_lay_17 : decode cX1_lay 17 = .ok (.aload_n 0, 1) := by decide +kernel
theorem dX1_lay_18 : decode cX1_lay 18 = .ok (.getfield 22, 3) := by decide +kernel
theorem dX1_lay_21 : decode cX1_lay 21 = .ok (.aload_n 0, 1) := by decide +kernel
theorem dX1_lay_22 : decode cX1_lay 22 = .ok (.iload 4, 2) := by decide +kernel
theorem dX1_lay_24 : decode cX1_lay 24 = .ok (.iload_n 2, 1) := by decide +kernel
theorem dX1_lay_25 : decode cX1_lay 25 = .ok (.invokevirtual 45, 3) := by decide +kernel
theorem dX1_lay_28 : decode cX1_lay 28 = .ok (.aload_n 0, 1) := by decide +kernel
theorem dX1_lay_29 : decode cX1_lay 29 = .ok (.iload 4, 2) := by decide +kernel
theorem dX1_lay_31 : decode cX1_lay 31 = .ok (.iload_n 2, 1) := by decide +kernel
theorem dX1_lay_32 : decode cX1_lay 32 = .ok (.invokevirtual 53, 3) := by decide +kernel
theorem dX1_lay_35 : decode cX1_lay 35 = .ok (.iastore, 1) := by decide +kernel
theorem dX1_lay_36 : decode cX1_lay 36 = .ok (.aload_n 0, 1) := by decide +kernel
theorem dX1_lay_37 : decode cX1_lay 37 = .ok (.getfield 29, 3) := by decide +kernel
theorem dX1_lay_40 : decode cX1_lay 40 = .ok (.iload_n 1, 1) := by decide +kernel
theorem dX1_lay_41 : decode cX1_lay 41 = .ok (.iconst 1, 1) := by decide +kernel
theorem dX1_lay_42 : decode cX1_lay 42 = .ok (.iastore, 1) := by decide +kernel
theorem dX1_lay_43 : decode cX1_lay 43 = .ok (.aload_n 0, 1) := by decide +kernel
theorem dX1_lay_44 : decode cX1_lay 44 = .ok (.getfield 32, 3) := by decide +kernel
theorem dX1_lay_47 : decode cX1_lay 47 = .ok (.iload_n 1, 1) := by decide +kernel
theorem dX1_lay_48 : decode cX1_lay 48 = .ok (.iconst 1, 1) := by decide +kernel
theorem dX1_lay_49 : decode cX1_lay 49 = .ok (.iastore, 1) := by decide +kernel
theorem dX1_lay_50 : decode cX1_lay 50 = .ok (.return_, 1) := by decide +kernel
set_option maxRecDepth 20000 in
theorem ggX1_layTorn_X1_fill : GoodIn wsX1_layTorn wsX1_fill := goodIn_r _ [6, 7, 8, 9, 10, 5, 11, 12, 13, 14, 15, 16, 17, 18, 19, 20, 21, 22, 23, 24, 25, 26] (by decide +kernel) (by decide +kernel)
set_option maxRecDepth 20000 in
theorem gX1_layTorn_X1_fill : GoodIn wsX1_layTorn (wsV RX1 49 RX1 yX1_fill wsX1_fill) := goodIn_app (goodIn_of _ (by decide +kernel)) ggX1_layTorn_X1_fill
theorem dX1_layTorn_0 : decode cX1_layTorn 0 = .ok (.aload_n 0, 1) := by decide +kernel
theorem dX1_layTorn_1 : decode cX1_layTorn 1 = .ok (.iload_n 1, 1) := by decide +kernel
theorem dX1_layTorn_2 : decode cX1_layTorn 2 = .ok (.iload_n 2, 1) := by decide +kernel
theorem dX1_layTorn_3 : decode cX1_layTorn 3 = .ok (.iload_n 3, 1) := by decide +kernel
theorem dX1_layTorn_4 : decode cX1_layTorn 4 = .ok (.iload 4, 2) := by decide +kernel
theorem dX1_layTorn_6 : decode cX1_layTorn 6 = .ok (.invokevirtual 49, 3) := by decide +kernel
theorem dX1_layTorn_9 : decode cX1_layTorn 9 = .ok (.aload_n 0, 1) := by decide +kernel
theorem dX1_layTorn_10 : decode cX1_layTorn 10 = .ok (.getfield 29, 3) := by decide +kernel
theorem dX1_layTorn_13 : decode cX1_layTorn 13 = .ok (.iload_n 1, 1) := by decide +kernel
theorem dX1_layTorn_14 : decode cX1_layTorn 14 = .ok (.iconst 1, 1) := by decide +kernel
theorem dX1_layTorn_15 : decode cX1_layTorn 15 = .ok (.iastore, 1) := by decide +kernel
theorem dX1_layTorn_16 : decode cX1_layTorn 16 = .ok (.return_, 1) := by decide +kernel
set_option maxRecDepth 20000 in
theorem ggX1_wrongSectors_X1_isWrong : GoodIn wsX1_wrongSectors wsX1_isWrong := goodIn_r _ [7, 8, 9, 10, 11, 12, 6, 13, 2, 14, 15, 16, 17, 18, 19, 20, 21, 22, 23, 24, 25, 26, 27, 28] (by decide +kernel) (by decide +kernel)
set_option maxRecDepth 20000 in
theorem gX1_wrongSectors_X1_isWrong : GoodIn wsX1_wrongSectors (wsV RX1 56 RX1 yX1_isWrong wsX1_isWrong) := goodIn_app (goodIn_of _ (by decide +kernel)) ggX1_wrongSectors_X1_isWrong
theorem dX1_wrongSectors_0 : decode cX1_wrongSectors 0 = .ok (.iconst 0, 1) := by decide +kernel
theorem dX1_wrongSectors_1 : decode cX1_wrongSectors 1 = .ok (.istore_n 1, 1) := by decide +kernel
theorem dX1_wrongSectors_2 : decode cX1_wrongSectors 2 = .ok (.iconst 0, 1) := by decide +kernel
theorem dX1_wrongSectors_3 : decode cX1_wrongSectors 3 = .ok (.istore_n 2, 1) := by decide +kernel
theorem dX1_wrongSectors_4 : decode cX1_wrongSectors 4 = .ok (.iload_n 2, 1) := by decide +kernel
theorem dX1_wrongSectors_5 : decode cX1_wrongSectors 5 = .ok (.aload_n 0, 1) := by decide +kernel
theorem dX1_wrongSectors_6 : decode cX1_wrongSectors 6 = .ok (.getfield 9, 3) := by decide +kernel
theorem dX1_wrongSectors_9 : decode cX1_wrongSectors 9 = .ok (.if_icmp .ge 37, 3) := by decide +kernel
theorem dX1_wrongSectors_12 : decode cX1_wrongSectors 12 = .ok (.iconst 0, 1) := by decide +kernel
theorem dX1_wrongSectors_13 : decode cX1_wrongSectors 13 = .ok (.istore_n 3, 1) := by decide +kernel
theorem dX1_wrongSectors_14 : decode cX1_wrongSectors 14 = .ok (.iload_n 3, 1) := by decide +kernel
theorem dX1_wrongSectors_15 : decode cX1_wrongSectors 15 = .ok (.aload_n 0, 1) := by decide +kernel
theorem dX1_wrongSectors_16 : decode cX1_wrongSectors 16 = .ok (.getfield 15, 3) := by decide +kernel
theorem dX1_wrongSectors_19 : decode cX1_wrongSectors 19 = .ok (.if_icmp .ge 21, 3) := by decide +kernel
theorem dX1_wrongSectors_22 : decode cX1_wrongSectors 22 = .ok (.aload_n 0, 1) := by decide +kernel
theorem dX1_wrongSectors_23 : decode cX1_wrongSectors 23 = .ok (.iload_n 2, 1) := by decide +kernel
theorem dX1_wrongSectors_24 : decode cX1_wrongSectors 24 = .ok (.iload_n 3, 1) := by decide +kernel
theorem dX1_wrongSectors_25 : decode cX1_wrongSectors 25 = .ok (.invokevirtual 56, 3) := by decide +kernel
theorem dX1_wrongSectors_28 : decode cX1_wrongSectors 28 = .ok (.ifCond .eq 6, 3) := by decide +kernel
theorem dX1_wrongSectors_31 : decode cX1_wrongSectors 31 = .ok (.iinc 1 1, 3) := by decide +kernel
theorem dX1_wrongSectors_34 : decode cX1_wrongSectors 34 = .ok (.iinc 3 1, 3) := by decide +kernel
theorem dX1_wrongSectors_37 : decode cX1_wrongSectors 37 = .ok (.goto (-23), 3) := by decide +kernel
theorem dX1_wrongSectors_40 : decode cX1_wrongSectors 40 = .ok (.iinc 2 1, 3) := by decide +kernel
theorem dX1_wrongSectors_43 : decode cX1_wrongSectors 43 = .ok (.goto (-39), 3) := by decide +kernel
theorem dX1_wrongSectors_46 : decode cX1_wrongSectors 46 = .ok (.iload_n 1, 1) := by decide +kernel
theorem dX1_wrongSectors_47 : decode cX1_wrongSectors 47 = .ok (.ireturn, 1) := by decide +kernel
set_option maxRecDepth 20000 in
theorem ggX1_firstWrong_X1_isWrong : GoodIn wsX1_firstWrong wsX1_isWrong := goodIn_r _ [7, 8, 9, 10, 11, 12, 6, 13, 2, 14, 15, 16, 17, 18, 19, 20, 21, 22, 23, 24, 25, 26, 27, 28] (by decide +kernel) (by decide +kernel)
set_option maxRecDepth 20000 in
theorem gX1_firstWrong_X1_isWrong : GoodIn wsX1_firstWrong (wsV RX1 56 RX1 yX1_isWrong wsX1_isWrong) := goodIn_app (goodIn_of _ (by decide +kernel)) ggX1_firstWrong_X1_isWrong
theorem dX1_firstWrong_0 : decode cX1_firstWrong 0 = .ok (.iconst 0, 1) := by decide +kernel
theorem dX1_firstWrong_1 : decode cX1_firstWrong 1 = .ok (.istore_n 1, 1) := by decide +kernel
theorem dX1_firstWrong_2 : decode cX1_firstWrong 2 = .ok (.iload_n 1, 1) := by decide +kernel
theorem dX1_firstWrong_3 : decode cX1_firstWrong 3 = .ok (.aload_n 0, 1) := by decide +kernel
theorem dX1_firstWrong_4 : decode cX1_firstWrong 4 = .ok (.getfield 9, 3) := by decide +kernel
theorem dX1_firstWrong_7 : decode cX1_firstWrong 7 = .ok (.if_icmp .ge 41, 3) := by decide +kernel
theorem dX1_firstWrong_10 : decode cX1_firstWrong 10 = .ok (.iconst 0, 1) := by decide +kernel
theorem dX1_firstWrong_11 : decode cX1_firstWrong 11 = .ok (.istore_n 2, 1) := by decide +kernel
theorem dX1_firstWrong_12 : decode cX1_firstWrong 12 = .ok (.iload_n 2, 1) := by decide +kernel
theorem dX1_firstWrong_13 : decode cX1_firstWrong 13 = .ok (.aload_n 0, 1) := by decide +kernel
theorem dX1_firstWrong_14 : decode cX1_firstWrong 14 = .ok (.getfield 15, 3) := by decide +kernel
theorem dX1_firstWrong_17 : decode cX1_firstWrong 17 = .ok (.if_icmp .ge 25, 3) := by decide +kernel
theorem dX1_firstWrong_20 : decode cX1_firstWrong 20 = .ok (.aload_n 0, 1) := by decide +kernel
theorem dX1_firstWrong_21 : decode cX1_firstWrong 21 = .ok (.iload_n 1, 1) := by decide +kernel
theorem dX1_firstWrong_22 : decode cX1_firstWrong 22 = .ok (.iload_n 2, 1) := by decide +kernel
theorem dX1_firstWrong_23 : decode cX1_firstWrong 23 = .ok (.invokevirtual 56, 3) := by decide +kernel
theorem dX1_firstWrong_26 : decode cX1_firstWrong 26 = .ok (.ifCond .eq 10, 3) := by decide +kernel
theorem dX1_firstWrong_29 : decode cX1_firstWrong 29 = .ok (.iload_n 1, 1) := by decide +kernel
theorem dX1_firstWrong_30 : decode cX1_firstWrong 30 = .ok (.bipush 8, 2) := by decide +kernel
theorem dX1_firstWrong_32 : decode cX1_firstWrong 32 = .ok (.imul, 1) := by decide +kernel
theorem dX1_firstWrong_33 : decode cX1_firstWrong 33 = .ok (.iload_n 2, 1) := by decide +kernel
theorem dX1_firstWrong_34 : decode cX1_firstWrong 34 = .ok (.iadd, 1) := by decide +kernel
theorem dX1_firstWrong_35 : decode cX1_firstWrong 35 = .ok (.ireturn, 1) := by decide +kernel
theorem dX1_firstWrong_36 : decode cX1_firstWrong 36 = .ok (.iinc 2 1, 3) := by decide +kernel
theorem dX1_firstWrong_39 : decode cX1_firstWrong 39 = .ok (.goto (-27), 3) := by decide +kernel
theorem dX1_firstWrong_42 : decode cX1_firstWrong 42 = .ok (.iinc 1 1, 3) := by decide +kernel
theorem dX1_firstWrong_45 : decode cX1_firstWrong 45 = .ok (.goto (-43), 3) := by decide +kernel
theorem dX1_firstWrong_48 : decode cX1_firstWrong 48 = .ok (.iconst (-1), 1) := by decide +kernel
theorem dX1_firstWrong_49 : decode cX1_firstWrong 49 = .ok (.ireturn, 1) := by decide +kernel
set_option maxRecDepth 20000 in
theorem ggX1_mendRows_X1_holdsMoreThanZeros : GoodIn wsX1_mendRows wsX1_holdsMoreThanZeros := goodIn_r _ [8, 9, 10, 11, 12, 13, 7, 14, 15, 16, 17, 18, 19, 20, 21, 22, 23, 24, 25, 26, 27, 28] (by decide +kernel) (by decide +kernel)
set_option maxRecDepth 20000 in
theorem gX1_mendRows_X1_holdsMoreThanZeros : GoodIn wsX1_mendRows (wsV RX1 60 RX1 yX1_holdsMoreThanZeros wsX1_holdsMoreThanZeros) := goodIn_app (goodIn_of _ (by decide +kernel)) ggX1_mendRows_X1_holdsMoreThanZeros
theorem dX1_mendRows_0 : decode cX1_mendRows 0 = .ok (.iconst 0, 1) := by decide +kernel
theorem dX1_mendRows_1 : decode cX1_mendRows 1 = .ok (.istore_n 1, 1) := by decide +kernel
theorem dX1_mendRows_2 : decode cX1_mendRows 2 = .ok (.iconst 0, 1) := by decide +kernel
theorem dX1_mendRows_3 : decode cX1_mendRows 3 = .ok (.istore_n 2, 1) := by decide +kernel
theorem dX1_mendRows_4 : decode cX1_mendRows 4 = .ok (.iload_n 2, 1) := by decide +kernel
theorem dX1_mendRows_5 : decode cX1_mendRows 5 = .ok (.aload_n 0, 1) := by decide +kernel
theorem dX1_mendRows_6 : decode cX1_mendRows 6 = .ok (.getfield 9, 3) := by decide +kernel
theorem dX1_mendRows_9 : decode cX1_mendRows 9 = .ok (.if_icmp .ge 55, 3) := by decide +kernel
theorem dX1_mendRows_12 : decode cX1_mendRows 12 = .ok (.aload_n 0, 1) := by decide +kernel
theorem dX1_mendRows_13 : decode cX1_mendRows 13 = .ok (.getfield 29, 3) := by decide +kernel
theorem dX1_mendRows_16 : decode cX1_mendRows 16 = .ok (.iload_n 2, 1) := by decide +kernel
theorem dX1_mendRows_17 : decode cX1_mendRows 17 = .ok (.iaload, 1) := by decide +kernel
theorem dX1_mendRows_18 : decode cX1_mendRows 18 = .ok (.aload_n 0, 1) := by decide +kernel
theorem dX1_mendRows_19 : decode cX1_mendRows 19 = .ok (.getfield 32, 3) := by decide +kernel
theorem dX1_mendRows_22 : decode cX1_mendRows 22 = .ok (.iload_n 2, 1) := by decide +kernel
theorem dX1_mendRows_23 : decode cX1_mendRows 23 = .ok (.iaload, 1) := by decide +kernel
theorem dX1_mendRows_24 : decode cX1_mendRows 24 = .ok (.if_icmp .eq 34, 3) := by decide +kernel
theorem dX1_mendRows_27 : decode cX1_mendRows 27 = .ok (.aload_n 0, 1) := by decide +kernel
theorem dX1_mendRows_28 : decode cX1_mendRows 28 = .ok (.iload_n 2, 1) := by decide +kernel
theorem dX1_mendRows_29 : decode cX1_mendRows 29 = .ok (.invokevirtual 60, 3) := by decide +kernel
theorem dX1_mendRows_32 : decode cX1_mendRows 32 = .ok (.ifCond .eq 7, 3) := by decide +kernel
theorem dX1_mendRows_35 : decode cX1_mendRows 35 = .ok (.iconst 1, 1) := by decide +kernel
theorem dX1_mendRows_36 : decode cX1_mendRows 36 = .ok (.goto 4, 3) := by decide +kernel
theorem dX1_mendRows_39 : decode cX1_mendRows 39 = .ok (.iconst 0, 1) := by decide +kernel
theorem dX1_mendRows_40 : decode cX1_mendRows 40 = .ok (.istore_n 3, 1) := by decide +kernel
theorem dX1_mendRows_41 : decode cX1_mendRows 41 = .ok (.aload_n 0, 1) := by decide +kernel
theorem dX1_mendRows_42 : decode cX1_mendRows 42 = .ok (.getfield 29, 3) := by decide +kernel
theorem dX1_mendRows_45 : decode cX1_mendRows 45 = .ok (.iload_n 2, 1) := by decide +kernel
theorem dX1_mendRows_46 : decode cX1_mendRows 46 = .ok (.iload_n 3, 1) := by decide +kernel
theorem dX1_mendRows_47 : decode cX1_mendRows 47 = .ok (.iastore, 1) := by decide +kernel
theorem dX1_mendRows_48 : decode cX1_mendRows 48 = .ok (.aload_n 0, 1) := by decide +kernel
theorem dX1_mendRows_49 : decode cX1_mendRows 49 = .ok (.getfield 32, 3) := by decide +kernel
theorem dX1_mendRows_52 : decode cX1_mendRows 52 = .ok (.iload_n 2, 1) := by decide +kernel
theorem dX1_mendRows_53 : decode cX1_mendRows 53 = .ok (.iload_n 3, 1) := by decide +kernel
theorem dX1_mendRows_54 : decode cX1_mendRows 54 = .ok (.iastore, 1) := by decide +kernel
theorem dX1_mendRows_55 : decode cX1_mendRows 55 = .ok (.iinc 1 1, 3) := by decide +kernel
theorem dX1_mendRows_58 : decode cX1_mendRows 58 = .ok (.iinc 2 1, 3) := by decide +kernel
theorem dX1_mendRows_61 : decode cX1_mendRows 61 = .ok (.goto (-57), 3) := by decide +kernel
theorem dX1_mendRows_64 : decode cX1_mendRows 64 = .ok (.iload_n 1, 1) := by decide +kernel
theorem dX1_mendRows_65 : decode cX1_mendRows 65 = .ok (.ireturn, 1) := by decide +kernel
theorem dX1_isSent_0 : decode cX1_isSent 0 = .ok (.aload_n 0, 1) := by decide +kernel
theorem dX1_isSent_1 : decode cX1_isSent 1 = .ok (.getfield 26, 3) := by decide +kernel
theorem dX1_isSent_4 : decode cX1_isSent 4 = .ok (.iload_n 1, 1) := by decide +kernel
theorem dX1_isSent_5 : decode cX1_isSent 5 = .ok (.iaload, 1) := by decide +kernel
theorem dX1_isSent_6 : decode cX1_isSent 6 = .ok (.aload_n 0, 1) := by decide +kernel
theorem dX1_isSent_7 : decode cX1_isSent 7 = .ok (.getfield 9, 3) := by decide +kernel
theorem dX1_isSent_10 : decode cX1_isSent 10 = .ok (.if_icmp .lt 7, 3) := by decide +kernel
theorem dX1_isSent_13 : decode cX1_isSent 13 = .ok (.iconst 1, 1) := by decide +kernel
theorem dX1_isSent_14 : decode cX1_isSent 14 = .ok (.goto 4, 3) := by decide +kernel
theorem dX1_isSent_17 : decode cX1_isSent 17 = .ok (.iconst 0, 1) := by decide +kernel
theorem dX1_isSent_18 : decode cX1_isSent 18 = .ok (.ireturn, 1) := by decide +kernel
set_option maxRecDepth 20000 in
theorem ggX1_send_X1_firstByte : GoodIn wsX1_send wsX1_firstByte := goodIn_r _ [14, 9, 15, 16, 17, 13, 18, 4, 29, 30, 31, 32, 33, 34, 35, 36, 37] (by decide +kernel) (by decide +kernel)
set_option maxRecDepth 20000 in
theorem gX1_send_X1_firstByte : GoodIn wsX1_send (wsV RX1 64 RX1 yX1_firstByte wsX1_firstByte) := goodIn_app (goodIn_of _ (by decide +kernel)) ggX1_send_X1_firstByte
set_option maxRecDepth 20000 in
theorem ggX1_send_X1_slot : GoodIn wsX1_send wsX1_slot := goodIn_r _ [18, 4, 29, 30, 31, 32, 33, 34, 35, 36, 37] (by decide +kernel) (by decide +kernel)
set_option maxRecDepth 20000 in
theorem gX1_send_X1_slot : GoodIn wsX1_send (wsV RX1 45 RX1 yX1_slot wsX1_slot) := goodIn_app (goodIn_of _ (by decide +kernel)) ggX1_send_X1_slot
set_option maxRecDepth 20000 in
theorem ggX1_send_X1_setSums : GoodIn wsX1_send wsX1_setSums := goodIn_r _ [22, 4, 23, 15, 16, 17, 13, 18, 24, 25, 26, 27, 3, 28, 29, 30, 31, 32, 33, 34, 35, 36, 37] (by decide +kernel) (by decide +kernel)
set_option maxRecDepth 20000 in
theorem gX1_send_X1_setSums : GoodIn wsX1_send (wsV RX1 41 RX1 yX1_setSums wsX1_setSums) := goodIn_app (goodIn_of _ (by decide +kernel)) ggX1_send_X1_setSums
theorem dX1_send_0 : decode cX1_send 0 = .ok (.aload_n 0, 1) := by decide +kernel
theorem dX1_send_1 : decode cX1_send 1 = .ok (.getfield 9, 3) := by decide +kernel
theorem dX1_send_4 : decode cX1_send 4 = .ok (.aload_n 0, 1) := by decide +kernel
theorem dX1_send_5 : decode cX1_send 5 = .ok (.getfield 35, 3) := by decide +kernel
theorem dX1_send_8 : decode cX1_send 8 = .ok (.iadd, 1) := by decide +kernel
theorem dX1_send_9 : decode cX1_send 9 = .ok (.istore_n 2, 1) := by decide +kernel
theorem dX1_send_10 : decode cX1_send 10 = .ok (.aload_n 0, 1) := by decide +kernel
theorem dX1_send_11 : decode cX1_send 11 = .ok (.getfield 18, 3) := by decide +kernel
theorem dX1_send_14 : decode cX1_send 14 = .ok (.aload_n 0, 1) := by decide +kernel
theorem dX1_send_15 : decode cX1_send 15 = .ok (.iload_n 1, 1) := by decide +kernel
theorem dX1_send_16 : decode cX1_send 16 = .ok (.iconst 0, 1) := by decide +kernel
theorem dX1_send_17 : decode cX1_send 17 = .ok (.invokevirtual 64, 3) := by decide +kernel
theorem dX1_send_20 : decode cX1_send 20 = .ok (.aload_n 0, 1) := by decide +kernel
theorem dX1_send_21 : decode cX1_send 21 = .ok (.getfield 18, 3) := by decide +kernel
theorem dX1_send_24 : decode cX1_send 24 = .ok (.aload_n 0, 1) := by decide +kernel
theorem dX1_send_25 : decode cX1_send 25 = .ok (.iload_n 2, 1) := by decide +kernel
theorem dX1_send_26 : decode cX1_send 26 = .ok (.iconst 0, 1) := by decide +kernel
theorem dX1_send_27 : decode cX1_send 27 = .ok (.invokevirtual 45, 3) := by decide +kernel
theorem dX1_send_30 : decode cX1_send 30 = .ok (.bipush 16, 2) := by decide +kernel
theorem dX1_send_32 : decode cX1_send 32 = .ok (.imul, 1) := by decide +kernel
theorem dX1_send_33 : decode cX1_send 33 = .ok (.aload_n 0, 1) := by decide +kernel
theorem dX1_send_34 : decode cX1_send 34 = .ok (.getfield 15, 3) := by decide +kernel
theorem dX1_send_37 : decode cX1_send 37 = .ok (.bipush 16, 2) := by decide +kernel
theorem dX1_send_39 : decode cX1_send 39 = .ok (.imul, 1) := by decide +kernel
theorem dX1_send_40 : decode cX1_send 40 = .ok (.invokestatic 67, 3) := by decide +kernel
theorem dX1_send_43 : decode cX1_send 43 = .ok (.aload_n 0, 1) := by decide +kernel
theorem dX1_send_44 : decode cX1_send 44 = .ok (.iload_n 2, 1) := by decide +kernel
theorem dX1_send_45 : decode cX1_send 45 = .ok (.invokevirtual 41, 3) := by decide +kernel
theorem dX1_send_48 : decode cX1_send 48 = .ok (.aload_n 0, 1) := by decide +kernel
theorem dX1_send_49 : decode cX1_send 49 = .ok (.getfield 26, 3) := by decide +kernel
theorem dX1_send_52 : decode cX1_send 52 = .ok (.iload_n 1, 1) := by decide +kernel
theorem dX1_send_53 : decode cX1_send 53 = .ok (.iload_n 2, 1) := by decide +kernel
theorem dX1_send_54 : decode cX1_send 54 = .ok (.iastore, 1) := by decide +kernel
theorem dX1_send_55 : decode cX1_send 55 = .ok (.aload_n 0, 1) := by decide +kernel
theorem dX1_send_56 : decode cX1_send 56 = .ok (.dup, 1) := by decide +kernel
theorem dX1_send_57 : decode cX1_send 57 = .ok (.getfield 35, 3) := by decide +kernel
theorem dX1_send_60 : decode cX1_send 60 = .ok (.iconst 1, 1) := by decide +kernel
theorem dX1_send_61 : decode cX1_send 61 = .ok (.iadd, 1) := by decide +kernel
theorem dX1_send_62 : decode cX1_send 62 = .ok (.putfield 35, 3) := by decide +kernel
theorem dX1_send_65 : decode cX1_send 65 = .ok (.iload_n 2, 1) := by decide +kernel
theorem dX1_send_66 : decode cX1_send 66 = .ok (.ireturn, 1) := by decide +kernel
theorem dX1_takeOver_0 : decode cX1_takeOver 0 = .ok (.aload_n 1, 1) := by decide +kernel
theorem dX1_takeOver_1 : decode cX1_takeOver 1 = .ok (.getfield 18, 3) := by decide +kernel
theorem dX1_takeOver_4 : decode cX1_takeOver 4 = .ok (.iconst 0, 1) := by decide +kernel
theorem dX1_takeOver_5 : decode cX1_takeOver 5 = .ok (.aload_n 0, 1) := by decide +kernel
theorem dX1_takeOver_6 : decode cX1_takeOver 6 = .ok (.getfield 18, 3) := by decide +kernel
theorem dX1_takeOver_9 : decode cX1_takeOver 9 = .ok (.iconst 0, 1) := by decide +kernel
theorem dX1_takeOver_10 : decode cX1_takeOver 10 = .ok (.aload_n 0, 1) := by decide +kernel
theorem dX1_takeOver_11 : decode cX1_takeOver 11 = .ok (.getfield 18, 3) := by decide +kernel
theorem dX1_takeOver_14 : decode cX1_takeOver 14 = .ok (.arraylength, 1) := by decide +kernel
theorem dX1_takeOver_15 : decode cX1_takeOver 15 = .ok (.invokestatic 67, 3) := by decide +kernel
theorem dX1_takeOver_18 : decode cX1_takeOver 18 = .ok (.aload_n 1, 1) := by decide +kernel
theorem dX1_takeOver_19 : decode cX1_takeOver 19 = .ok (.getfield 22, 3) := by decide +kernel
theorem dX1_takeOver_22 : decode cX1_takeOver 22 = .ok (.iconst 0, 1) := by decide +kernel
theorem dX1_takeOver_23 : decode cX1_takeOver 23 = .ok (.aload_n 0, 1) := by decide +kernel
theorem dX1_takeOver_24 : decode cX1_takeOver 24 = .ok (.getfield 22, 3) := by decide +kernel
theorem dX1_takeOver_27 : decode cX1_takeOver 27 = .ok (.iconst 0, 1) := by decide +kernel
theorem dX1_takeOver_28 : decode cX1_takeOver 28 = .ok (.aload_n 0, 1) := by decide +kernel
theorem dX1_takeOver_29 : decode cX1_takeOver 29 = .ok (.getfield 22, 3) := by decide +kernel
theorem dX1_takeOver_32 : decode cX1_takeOver 32 = .ok (.arraylength, 1) := by decide +kernel
theorem dX1_takeOver_33 : decode cX1_takeOver 33 = .ok (.invokestatic 67, 3) := by decide +kernel
theorem dX1_takeOver_36 : decode cX1_takeOver 36 = .ok (.aload_n 1, 1) := by decide +kernel
theorem dX1_takeOver_37 : decode cX1_takeOver 37 = .ok (.getfield 26, 3) := by decide +kernel
theorem dX1_takeOver_40 : decode cX1_takeOver 40 = .ok (.iconst 0, 1) := by decide +kernel
theorem dX1_takeOver_41 : decode cX1_takeOver 41 = .ok (.aload_n 0, 1) := by decide +kernel
theorem dX1_takeOver_42 : decode cX1_takeOver 42 = .ok (.getfield 26, 3) := by decide +kernel
theorem dX1_takeOver_45 : decode cX1_takeOver 45 = .ok (.iconst 0, 1) := by decide +kernel
theorem dX1_takeOver_46 : decode cX1_takeOver 46 = .ok (.aload_n 0, 1) := by decide +kernel
theorem dX1_takeOver_47 : decode cX1_takeOver 47 = .ok (.getfield 26, 3) := by decide +kernel
theorem dX1_takeOver_50 : decode cX1_takeOver 50 = .ok (.arraylength, 1) := by decide +kernel
theorem dX1_takeOver_51 : decode cX1_takeOver 51 = .ok (.invokestatic 67, 3) := by decide +kernel
theorem dX1_takeOver_54 : decode cX1_takeOver 54 = .ok (.aload_n 1, 1) := by decide +kernel
theorem dX1_takeOver_55 : decode cX1_takeOver 55 = .ok (.getfield 29, 3) := by decide +kernel
theorem dX1_takeOver_58 : decode cX1_takeOver 58 = .ok (.iconst 0, 1) := by decide +kernel
theorem dX1_takeOver_59 : decode cX1_takeOver 59 = .ok (.aload_n 0, 1) := by decide +kernel
theorem dX1_takeOver_60 : decode cX1_takeOver 60 = .ok (.getfield 29, 3) := by decide +kernel
theorem dX1_takeOver_63 : decode cX1_takeOver 63 = .ok (.iconst 0, 1) := by decide +kernel
theorem dX1_takeOver_64 : decode cX1_takeOver 64 = .ok (.aload_n 0, 1) := by decide +kernel
theorem dX1_takeOver_65 : decode cX1_takeOver 65 = .ok (.getfield 29, 3) := by decide +kernel
theorem dX1_takeOver_68 : decode cX1_takeOver 68 = .ok (.arraylength, 1) := by decide +kernel
theorem dX1_takeOver_69 : decode cX1_takeOver 69 = .ok (.invokestatic 67, 3) := by decide +kernel
theorem dX1_takeOver_72 : decode cX1_takeOver 72 = .ok (.aload_n 1, 1) := by decide +kernel
theorem dX1_takeOver_73 : decode cX1_takeOver 73 = .ok (.getfield 32, 3) := by decide +kernel
theorem dX1_takeOver_76 : decode cX1_takeOver 76 = .ok (.iconst 0, 1) := by decide +kernel
theorem dX1_takeOver_77 : decode cX1_takeOver 77 = .ok (.aload_n 0, 1) := by decide +kernel
theorem dX1_takeOver_78 : decode cX1_takeOver 78 = .ok (.getfield 32, 3) := by decide +kernel
theorem dX1_takeOver_81 : decode cX1_takeOver 81 = .ok (.iconst 0, 1) := by decide +kernel
theorem dX1_takeOver_82 : decode cX1_takeOver 82 = .ok (.aload_n 0, 1) := by decide +kernel
theorem dX1_takeOver_83 : decode cX1_takeOver 83 = .ok (.getfield 32, 3) := by decide +kernel
theorem dX1_takeOver_86 : decode cX1_takeOver 86 = .ok (.arraylength, 1) := by decide +kernel
theorem dX1_takeOver_87 : decode cX1_takeOver 87 = .ok (.invokestatic 67, 3) := by decide +kernel
theorem dX1_takeOver_90 : decode cX1_takeOver 90 = .ok (.aload_n 0, 1) := by decide +kernel
theorem dX1_takeOver_91 : decode cX1_takeOver 91 = .ok (.aload_n 1, 1) := by decide +kernel
theorem dX1_takeOver_92 : decode cX1_takeOver 92 = .ok (.getfield 35, 3) := by decide +kernel
theorem dX1_takeOver_95 : decode cX1_takeOver 95 = .ok (.putfield 35, 3) := by decide +kernel
theorem dX1_takeOver_98 : decode cX1_takeOver 98 = .ok (.aload_n 0, 1) := by decide +kernel
theorem dX1_takeOver_99 : decode cX1_takeOver 99 = .ok (.aload_n 1, 1) := by decide +kernel
theorem dX1_takeOver_100 : decode cX1_takeOver 100 = .ok (.getfield 38, 3) := by decide +kernel
theorem dX1_takeOver_103 : decode cX1_takeOver 103 = .ok (.putfield 38, 3) := by decide +kernel
theorem dX1_takeOver_106 : decode cX1_takeOver 106 = .ok (.return_, 1) := by decide +kernel
set_option maxRecDepth 20000 in
theorem ggX1_differingSectors_X1_differsAt : GoodIn wsX1_differingSectors wsX1_differsAt := goodIn_r _ [6, 7, 8, 9, 10, 11, 12, 13, 14, 15, 16] (by decide +kernel) (by decide +kernel)
set_option maxRecDepth 20000 in
theorem gX1_differingSectors_X1_differsAt : GoodIn wsX1_differingSectors (wsV RX1 73 RX1 yX1_differsAt wsX1_differsAt) := goodIn_app (goodIn_of _ (by decide +kernel)) ggX1_differingSectors_X1_differsAt
theorem dX1_differingSectors_0 : decode cX1_differingSectors 0 = .ok (.iconst 0, 1) := by decide +kernel
theorem dX1_differingSectors_1 : decode cX1_differingSectors 1 = .ok (.istore_n 2, 1) := by decide +kernel
theorem dX1_differingSectors_2 : decode cX1_differingSectors 2 = .ok (.iconst 0, 1) := by decide +kernel
theorem dX1_differingSectors_3 : decode cX1_differingSectors 3 = .ok (.istore_n 3, 1) := by decide +kernel
theorem dX1_differingSectors_4 : decode cX1_differingSectors 4 = .ok (.iload_n 3, 1) := by decide +kernel
theorem dX1_differingSectors_5 : decode cX1_differingSectors 5 = .ok (.aload_n 0, 1) := by decide +kernel
theorem dX1_differingSectors_6 : decode cX1_differingSectors 6 = .ok (.getfield 22, 3) := by decide +kernel
theorem dX1_differingSectors_9 : decode cX1_differingSectors 9 = .ok (.arraylength, 1) := by decide +kernel
theorem dX1_differingSectors_10 : decode cX1_differingSectors 10 = .ok (.if_icmp .ge 21, 3) := by decide +kernel
theorem dX1_differingSectors_13 : decode cX1_differingSectors 13 = .ok (.aload_n 0, 1) := by decide +kernel
theorem dX1_differingSectors_14 : decode cX1_differingSectors 14 = .ok (.aload_n 1, 1) := by decide +kernel
theorem dX1_differingSectors_15 : decode cX1_differingSectors 15 = .ok (.iload_n 3, 1) := by decide +kernel
theorem dX1_differingSectors_16 : decode cX1_differingSectors 16 = .ok (.invokevirtual 73, 3) := by decide +kernel
theorem dX1_differingSectors_19 : decode cX1_differingSectors 19 = .ok (.ifCond .eq 6, 3) := by decide +kernel
theorem dX1_differingSectors_22 : decode cX1_differingSectors 22 = .ok (.iinc 2 1, 3) := by decide +kernel
theorem dX1_differingSectors_25 : decode cX1_differingSectors 25 = .ok (.iinc 3 1, 3) := by decide +kernel
theorem dX1_differingSectors_28 : decode cX1_differingSectors 28 = .ok (.goto (-24), 3) := by decide +kernel
theorem dX1_differingSectors_31 : decode cX1_differingSectors 31 = .ok (.iload_n 2, 1) := by decide +kernel
theorem dX1_differingSectors_32 : decode cX1_differingSectors 32 = .ok (.ireturn, 1) := by decide +kernel
theorem dX1_slot_0 : decode cX1_slot 0 = .ok (.iload_n 1, 1) := by decide +kernel
theorem dX1_slot_1 : decode cX1_slot 1 = .ok (.aload_n 0, 1) := by decide +kernel
theorem dX1_slot_2 : decode cX1_slot 2 = .ok (.getfield 15, 3) := by decide +kernel
theorem dX1_slot_5 : decode cX1_slot 5 = .ok (.imul, 1) := by decide +kernel
theorem dX1_slot_6 : decode cX1_slot 6 = .ok (.iload_n 2, 1) := by decide +kernel
theorem dX1_slot_7 : decode cX1_slot 7 = .ok (.iadd, 1) := by decide +kernel
theorem dX1_slot_8 : decode cX1_slot 8 = .ok (.ireturn, 1) := by decide +kernel
set_option maxRecDepth 20000 in
theorem ggX1_fill_X1_firstByte : GoodIn wsX1_fill wsX1_firstByte := goodIn_r _ [6, 7, 8, 9, 10, 5, 11, 12, 13, 14, 15, 16, 17, 18, 19, 20, 21] (by decide +kernel) (by decide +kernel)
set_option maxRecDepth 20000 in
theorem gX1_fill_X1_firstByte : GoodIn wsX1_fill (wsV RX1 64 RX1 yX1_firstByte wsX1_firstByte) := goodIn_app (goodIn_of _ (by decide +kernel)) ggX1_fill_X1_firstByte
theorem dX1_fill_0 : decode cX1_fill 0 = .ok (.aload_n 0, 1) := by decide +kernel
theorem dX1_fill_1 : decode cX1_fill 1 = .ok (.iload_n 1, 1) := by decide +kernel
theorem dX1_fill_2 : decode cX1_fill 2 = .ok (.iload_n 2, 1) := by decide +kernel
theorem dX1_fill_3 : decode cX1_fill 3 = .ok (.invokevirtual 64, 3) := by decide +kernel
theorem dX1_fill_6 : decode cX1_fill 6 = .ok (.istore 5, 2) := by decide +kernel
theorem dX1_fill_8 : decode cX1_fill 8 = .ok (.iconst 0, 1) := by decide +kernel
theorem dX1_fill_9 : decode cX1_fill 9 = .ok (.istore 6, 2) := by decide +kernel
theorem dX1_fill_11 : decode cX1_fill 11 = .ok (.iload 6, 2) := by decide +kernel
theorem dX1_fill_13 : decode cX1_fill 13 = .ok (.iload 4, 2) := by decide +kernel
theorem dX1_fill_15 : decode cX1_fill 15 = .ok (.if_icmp .ge 24, 3) := by decide +kernel
theorem dX1_fill_18 : decode cX1_fill 18 = .ok (.aload_n 0, 1) := by decide +kernel
theorem dX1_fill_19 : decode cX1_fill 19 = .ok (.getfield 18, 3) := by decide +kernel
theorem dX1_fill_22 : decode cX1_fill 22 = .ok (.iload 5, 2) := by decide +kernel
theorem dX1_fill_24 : decode cX1_fill 24 = .ok (.iload 6, 2) := by decide +kernel
theorem dX1_fill_26 : decode cX1_fill 26 = .ok (.iadd, 1) := by decide +kernel
theorem dX1_fill_27 : decode cX1_fill 27 = .ok (.iload_n 3, 1) := by decide +kernel
theorem dX1_fill_28 : decode cX1_fill 28 = .ok (.iload 6, 2) := by decide +kernel
theorem dX1_fill_30 : decode cX1_fill 30 = .ok (.iadd, 1) := by decide +kernel
theorem dX1_fill_31 : decode cX1_fill 31 = .ok (.i2b, 1) := by decide +kernel
theorem dX1_fill_32 : decode cX1_fill 32 = .ok (.bastore, 1) := by decide +kernel
theorem dX1_fill_33 : decode cX1_fill 33 = .ok (.iinc 6 1, 3) := by decide +kernel
theorem dX1_fill_36 : decode cX1_fill 36 = .ok (.goto (-25), 3) := by decide +kernel
theorem dX1_fill_39 : decode cX1_fill 39 = .ok (.return_, 1) := by decide +kernel
set_option maxRecDepth 20000 in
theorem ggX1_setSums_X1_slot : GoodIn wsX1_setSums wsX1_slot := goodIn_r _ [7, 1, 14, 15, 16, 17, 18, 19, 20, 21, 22] (by decide +kernel) (by decide +kernel)
set_option maxRecDepth 20000 in
theorem gX1_setSums_X1_slot : GoodIn wsX1_setSums (wsV RX1 45 RX1 yX1_slot wsX1_slot) := goodIn_app (goodIn_of _ (by decide +kernel)) ggX1_setSums_X1_slot
set_option maxRecDepth 20000 in
theorem ggX1_setSums_X1_sumOf : GoodIn wsX1_setSums wsX1_sumOf := goodIn_r _ [11, 12, 13, 3, 4, 5, 6, 7, 1, 14, 15, 16, 17, 18, 19, 20, 21, 22] (by decide +kernel) (by decide +kernel)
set_option maxRecDepth 20000 in
theorem gX1_setSums_X1_sumOf : GoodIn wsX1_setSums (wsV RX1 53 RX1 yX1_sumOf wsX1_sumOf) := goodIn_app (goodIn_of _ (by decide +kernel)) ggX1_setSums_X1_sumOf
theorem dX1_setSums_0 : decode cX1_setSums 0 = .ok (.iconst 0, 1) := by decide +kernel
theorem dX1_setSums_1 : decode cX1_setSums 1 = .ok (.istore_n 2, 1) := by decide +kernel
theorem dX1_setSums_2 : decode cX1_setSums 2 = .ok (.iload_n 2, 1) := by decide +kernel
theorem dX1_setSums_3 : decode cX1_setSums 3 = .ok (.aload_n 0, 1) := by decide +kernel
theorem dX1_setSums_4 : decode cX1_setSums 4 = .ok (.getfield 15, 3) := by decide +kernel
theorem dX1_setSums_7 : decode cX1_setSums 7 = .ok (.if_icmp .ge 26, 3) := by decide +kernel
theorem dX1_setSums_10 : decode cX1_setSums 10 = .ok (.aload_n 0, 1) := by decide +kernel
theorem dX1_setSums_11 : decode cX1_setSums 11 = .ok (.getfield 22, 3) := by decide +kernel
theorem dX1_setSums_14 : decode cX1_setSums 14 = .ok (.aload_n 0, 1) := by decide +kernel
theorem dX1_setSums_15 : decode cX1_setSums 15 = .ok (.iload_n 1, 1) := by decide +kernel
theorem dX1_setSums_16 : decode cX1_setSums 16 = .ok (.iload_n 2, 1) := by decide +kernel
theorem dX1_setSums_17 : decode cX1_setSums 17 = .ok (.invokevirtual 45, 3) := by decide +kernel
theorem dX1_setSums_20 : decode cX1_setSums 20 = .ok (.aload_n 0, 1) := by decide +kernel
theorem dX1_setSums_21 : decode cX1_setSums 21 = .ok (.iload_n 1, 1) := by decide +kernel
theorem dX1_setSums_22 : decode cX1_setSums 22 = .ok (.iload_n 2, 1) := by decide +kernel
theorem dX1_setSums_23 : decode cX1_setSums 23 = .ok (.invokevirtual 53, 3) := by decide +kernel
theorem dX1_setSums_26 : decode cX1_setSums 26 = .ok (.iastore, 1) := by decide +kernel
theorem dX1_setSums_27 : decode cX1_setSums 27 = .ok (.iinc 2 1, 3) := by decide +kernel
theorem dX1_setSums_30 : decode cX1_setSums 30 = .ok (.goto (-28), 3) := by decide +kernel
theorem dX1_setSums_33 : decode cX1_setSums 33 = .ok (.return_, 1) := by decide +kernel
set_option maxRecDepth 20000 in
theorem ggX1_sumOf_X1_slot : GoodIn wsX1_sumOf wsX1_slot := goodIn_r _ [7, 8, 9, 10, 11, 12, 13, 14, 15, 16, 17] (by decide +kernel) (by decide +kernel)
set_option maxRecDepth 20000 in
theorem gX1_sumOf_X1_slot : GoodIn wsX1_sumOf (wsV RX1 45 RX1 yX1_slot wsX1_slot) := goodIn_app (goodIn_of _ (by decide +kernel)) ggX1_sumOf_X1_slot
theorem dX1_sumOf_0 : decode cX1_sumOf 0 = .ok (.aload_n 0, 1) := by decide +kernel
theorem dX1_sumOf_1 : decode cX1_sumOf 1 = .ok (.iload_n 1, 1) := by decide +kernel
theorem dX1_sumOf_2 : decode cX1_sumOf 2 = .ok (.iload_n 2, 1) := by decide +kernel
theorem dX1_sumOf_3 : decode cX1_sumOf 3 = .ok (.invokevirtual 45, 3) := by decide +kernel
theorem dX1_sumOf_6 : decode cX1_sumOf 6 = .ok (.bipush 16, 2) := by decide +kernel
theorem dX1_sumOf_8 : decode cX1_sumOf 8 = .ok (.imul, 1) := by decide +kernel
theorem dX1_sumOf_9 : decode cX1_sumOf 9 = .ok (.istore_n 3, 1) := by decide +kernel
theorem dX1_sumOf_10 : decode cX1_sumOf 10 = .ok (.bipush 64, 2) := by decide +kernel
theorem dX1_sumOf_12 : decode cX1_sumOf 12 = .ok (.iload_n 1, 1) := by decide +kernel
theorem dX1_sumOf_13 : decode cX1_sumOf 13 = .ok (.imul, 1) := by decide +kernel
theorem dX1_sumOf_14 : decode cX1_sumOf 14 = .ok (.iload_n 2, 1) := by decide +kernel
theorem dX1_sumOf_15 : decode cX1_sumOf 15 = .ok (.iadd, 1) := by decide +kernel
theorem dX1_sumOf_16 : decode cX1_sumOf 16 = .ok (.istore 4, 2) := by decide +kernel
theorem dX1_sumOf_18 : decode cX1_sumOf 18 = .ok (.iconst 0, 1) := by decide +kernel
theorem dX1_sumOf_19 : decode cX1_sumOf 19 = .ok (.istore 5, 2) := by decide +kernel
theorem dX1_sumOf_21 : decode cX1_sumOf 21 = .ok (.iload 5, 2) := by decide +kernel
theorem dX1_sumOf_23 : decode cX1_sumOf 23 = .ok (.bipush 16, 2) := by decide +kernel
theorem dX1_sumOf_25 : decode cX1_sumOf 25 = .ok (.if_icmp .ge 42, 3) := by decide +kernel
theorem dX1_sumOf_28 : decode cX1_sumOf 28 = .ok (.iload 4, 2) := by decide +kernel
theorem dX1_sumOf_30 : decode cX1_sumOf 30 = .ok (.aload_n 0, 1) := by decide +kernel
theorem dX1_sumOf_31 : decode cX1_sumOf 31 = .ok (.getfield 18, 3) := by decide +kernel
theorem dX1_sumOf_34 : decode cX1_sumOf 34 = .ok (.iload_n 3, 1) := by decide +kernel
theorem dX1_sumOf_35 : decode cX1_sumOf 35 = .ok (.iload 5, 2) := by decide +kernel
theorem dX1_sumOf_37 : decode cX1_sumOf 37 = .ok (.iadd, 1) := by decide +kernel
theorem dX1_sumOf_38 : decode cX1_sumOf 38 = .ok (.baload, 1) := by decide +kernel
theorem dX1_sumOf_39 : decode cX1_sumOf 39 = .ok (.sipush 255, 3) := by decide +kernel
theorem dX1_sumOf_42 : decode cX1_sumOf 42 = .ok (.iand, 1) := by decide +kernel
theorem dX1_sumOf_43 : decode cX1_sumOf 43 = .ok (.ixor, 1) := by decide +kernel
theorem dX1_sumOf_44 : decode cX1_sumOf 44 = .ok (.istore 6, 2) := by decide +kernel
theorem dX1_sumOf_46 : decode cX1_sumOf 46 = .ok (.iload 6, 2) := by decide +kernel
theorem dX1_sumOf_48 : decode cX1_sumOf 48 = .ok (.iconst 3, 1) := by decide +kernel
theorem dX1_sumOf_49 : decode cX1_sumOf 49 = .ok (.ishl, 1) := by decide +kernel
theorem dX1_sumOf_50 : decode cX1_sumOf 50 = .ok (.iload 6, 2) := by decide +kernel
theorem dX1_sumOf_52 : decode cX1_sumOf 52 = .ok (.bipush 29, 2) := by decide +kernel
theorem dX1_sumOf_54 : decode cX1_sumOf 54 = .ok (.iushr, 1) := by decide +kernel
theorem dX1_sumOf_55 : decode cX1_sumOf 55 = .ok (.ior, 1) := by decide +kernel
theorem dX1_sumOf_56 : decode cX1_sumOf 56 = .ok (.ldc 77, 2) := by decide +kernel
theorem dX1_sumOf_58 : decode cX1_sumOf 58 = .ok (.imul, 1) := by decide +kernel
theorem dX1_sumOf_59 : decode cX1_sumOf 59 = .ok (.istore 4, 2) := by decide +kernel
theorem dX1_sumOf_61 : decode cX1_sumOf 61 = .ok (.iinc 5 1, 3) := by decide +kernel
theorem dX1_sumOf_64 : decode cX1_sumOf 64 = .ok (.goto (-43), 3) := by decide +kernel
theorem dX1_sumOf_67 : decode cX1_sumOf 67 = .ok (.iload 4, 2) := by decide +kernel
theorem dX1_sumOf_69 : decode cX1_sumOf 69 = .ok (.ireturn, 1) := by decide +kernel
set_option maxRecDepth 20000 in
theorem ggX1_isWrong_X1_slot : GoodIn wsX1_isWrong wsX1_slot := goodIn_r _ [7, 8, 15, 16, 17, 18, 19, 20, 21, 22, 23] (by decide +kernel) (by decide +kernel)
set_option maxRecDepth 20000 in
theorem gX1_isWrong_X1_slot : GoodIn wsX1_isWrong (wsV RX1 45 RX1 yX1_slot wsX1_slot) := goodIn_app (goodIn_of _ (by decide +kernel)) ggX1_isWrong_X1_slot
set_option maxRecDepth 20000 in
theorem ggX1_isWrong_X1_sumOf : GoodIn wsX1_isWrong wsX1_sumOf := goodIn_r _ [12, 13, 14, 3, 4, 5, 6, 7, 8, 15, 16, 17, 18, 19, 20, 21, 22, 23] (by decide +kernel) (by decide +kernel)
set_option maxRecDepth 20000 in
theorem gX1_isWrong_X1_sumOf : GoodIn wsX1_isWrong (wsV RX1 53 RX1 yX1_sumOf wsX1_sumOf) := goodIn_app (goodIn_of _ (by decide +kernel)) ggX1_isWrong_X1_sumOf
theorem dX1_isWrong_0 : decode cX1_isWrong 0 = .ok (.aload_n 0, 1) := by decide +kernel
theorem dX1_isWrong_1 : decode cX1_isWrong 1 = .ok (.getfield 26, 3) := by decide +kernel
theorem dX1_isWrong_4 : decode cX1_isWrong 4 = .ok (.iload_n 1, 1) := by decide +kernel
theorem dX1_isWrong_5 : decode cX1_isWrong 5 = .ok (.iaload, 1) := by decide +kernel
theorem dX1_isWrong_6 : decode cX1_isWrong 6 = .ok (.istore_n 3, 1) := by decide +kernel
theorem dX1_isWrong_7 : decode cX1_isWrong 7 = .ok (.aload_n 0, 1) := by decide +kernel
theorem dX1_isWrong_8 : decode cX1_isWrong 8 = .ok (.getfield 22, 3) := by decide +kernel
theorem dX1_isWrong_11 : decode cX1_isWrong 11 = .ok (.aload_n 0, 1) := by decide +kernel
theorem dX1_isWrong_12 : decode cX1_isWrong 12 = .ok (.iload_n 3, 1) := by decide +kernel
theorem dX1_isWrong_13 : decode cX1_isWrong 13 = .ok (.iload_n 2, 1) := by decide +kernel
theorem dX1_isWrong_14 : decode cX1_isWrong 14 = .ok (.invokevirtual 45, 3) := by decide +kernel
theorem dX1_isWrong_17 : decode cX1_isWrong 17 = .ok (.iaload, 1) := by decide +kernel
theorem dX1_isWrong_18 : decode cX1_isWrong 18 = .ok (.aload_n 0, 1) := by decide +kernel
theorem dX1_isWrong_19 : decode cX1_isWrong 19 = .ok (.iload_n 3, 1) := by decide +kernel
theorem dX1_isWrong_20 : decode cX1_isWrong 20 = .ok (.iload_n 2, 1) := by decide +kernel
theorem dX1_isWrong_21 : decode cX1_isWrong 21 = .ok (.invokevirtual 53, 3) := by decide +kernel
theorem dX1_isWrong_24 : decode cX1_isWrong 24 = .ok (.if_icmp .eq 7, 3) := by decide +kernel
theorem dX1_isWrong_27 : decode cX1_isWrong 27 = .ok (.iconst 1, 1) := by decide +kernel
theorem dX1_isWrong_28 : decode cX1_isWrong 28 = .ok (.goto 4, 3) := by decide +kernel
theorem dX1_isWrong_31 : decode cX1_isWrong 31 = .ok (.iconst 0, 1) := by decide +kernel
theorem dX1_isWrong_32 : decode cX1_isWrong 32 = .ok (.ireturn, 1) := by decide +kernel
set_option maxRecDepth 20000 in
theorem ggX1_holdsMoreThanZeros_X1_firstByte : GoodIn wsX1_holdsMoreThanZeros wsX1_firstByte := goodIn_r _ [7, 8, 9, 10, 11, 6, 12, 1, 13, 14, 15, 16, 17, 18, 19, 20, 21] (by decide +kernel) (by decide +kernel)
set_option maxRecDepth 20000 in
theorem gX1_holdsMoreThanZeros_X1_firstByte : GoodIn wsX1_holdsMoreThanZeros (wsV RX1 64 RX1 yX1_firstByte wsX1_firstByte) := goodIn_app (goodIn_of _ (by decide +kernel)) ggX1_holdsMoreThanZeros_X1_firstByte
theorem dX1_holdsMoreThanZeros_0 : decode cX1_holdsMoreThanZeros 0 = .ok (.aload_n 0, 1) := by decide +kernel
theorem dX1_holdsMoreThanZeros_1 : decode cX1_holdsMoreThanZeros 1 = .ok (.iload_n 1, 1) := by decide +kernel
theorem dX1_holdsMoreThanZeros_2 : decode cX1_holdsMoreThanZeros 2 = .ok (.iconst 0, 1) := by decide +kernel
theorem dX1_holdsMoreThanZeros_3 : decode cX1_holdsMoreThanZeros 3 = .ok (.invokevirtual 64, 3) := by decide +kernel
theorem dX1_holdsMoreThanZeros_6 : decode cX1_holdsMoreThanZeros 6 = .ok (.istore_n 2, 1) := by decide +kernel
theorem dX1_holdsMoreThanZeros_7 : decode cX1_holdsMoreThanZeros 7 = .ok (.iconst 0, 1) := by decide +kernel
theorem dX1_holdsMoreThanZeros_8 : decode cX1_holdsMoreThanZeros 8 = .ok (.istore_n 3, 1) := by decide +kernel
theorem dX1_holdsMoreThanZeros_9 : decode cX1_holdsMoreThanZeros 9 = .ok (.iload_n 3, 1) := by decide +kernel
theorem dX1_holdsMoreThanZeros_10 : decode cX1_holdsMoreThanZeros 10 = .ok (.aload_n 0, 1) := by decide +kernel
theorem dX1_holdsMoreThanZeros_11 : decode cX1_holdsMoreThanZeros 11 = .ok (.getfield 15, 3) := by decide +kernel
theorem dX1_holdsMoreThanZeros_14 : decode cX1_holdsMoreThanZeros 14 = .ok (.bipush 16, 2) := by decide +kernel
theorem dX1_holdsMoreThanZeros_16 : decode cX1_holdsMoreThanZeros 16 = .ok (.imul, 1) := by decide +kernel
theorem dX1_holdsMoreThanZeros_17 : decode cX1_holdsMoreThanZeros 17 = .ok (.if_icmp .ge 22, 3) := by decide +kernel
theorem dX1_holdsMoreThanZeros_20 : decode cX1_holdsMoreThanZeros 20 = .ok (.aload_n 0, 1) := by decide +kernel
theorem dX1_holdsMoreThanZeros_21 : decode cX1_holdsMoreThanZeros 21 = .ok (.getfield 18, 3) := by decide +kernel
theorem dX1_holdsMoreThanZeros_24 : decode cX1_holdsMoreThanZeros 24 = .ok (.iload_n 2, 1) := by decide +kernel
theorem dX1_holdsMoreThanZeros_25 : decode cX1_holdsMoreThanZeros 25 = .ok (.iload_n 3, 1) := by decide +kernel
theorem dX1_holdsMoreThanZeros_26 : decode cX1_holdsMoreThanZeros 26 = .ok (.iadd, 1) := by decide +kernel
theorem dX1_holdsMoreThanZeros_27 : decode cX1_holdsMoreThanZeros 27 = .ok (.baload, 1) := by decide +kernel
theorem dX1_holdsMoreThanZeros_28 : decode cX1_holdsMoreThanZeros 28 = .ok (.ifCond .eq 5, 3) := by decide +kernel
theorem dX1_holdsMoreThanZeros_31 : decode cX1_holdsMoreThanZeros 31 = .ok (.iconst 1, 1) := by decide +kernel
theorem dX1_holdsMoreThanZeros_32 : decode cX1_holdsMoreThanZeros 32 = .ok (.ireturn, 1) := by decide +kernel
theorem dX1_holdsMoreThanZeros_33 : decode cX1_holdsMoreThanZeros 33 = .ok (.iinc 3 1, 3) := by decide +kernel
theorem dX1_holdsMoreThanZeros_36 : decode cX1_holdsMoreThanZeros 36 = .ok (.goto (-27), 3) := by decide +kernel
theorem dX1_holdsMoreThanZeros_39 : decode cX1_holdsMoreThanZeros 39 = .ok (.iconst 0, 1) := by decide +kernel
theorem dX1_holdsMoreThanZeros_40 : decode cX1_holdsMoreThanZeros 40 = .ok (.ireturn, 1) := by decide +kernel
theorem dX1_differsAt_0 : decode cX1_differsAt 0 = .ok (.iload_n 2, 1) := by decide +kernel
theorem dX1_differsAt_1 : decode cX1_differsAt 1 = .ok (.bipush 16, 2) := by decide +kernel
theorem dX1_differsAt_3 : decode cX1_differsAt 3 = .ok (.imul, 1) := by decide +kernel
theorem dX1_differsAt_4 : decode cX1_differsAt 4 = .ok (.istore_n 3, 1) := by decide +kernel
theorem dX1_differsAt_5 : decode cX1_differsAt 5 = .ok (.iconst 0, 1) := by decide +kernel
theorem dX1_differsAt_6 : decode cX1_differsAt 6 = .ok (.istore 4, 2) := by decide +kernel
theorem dX1_differsAt_8 : decode cX1_differsAt 8 = .ok (.iload 4, 2) := by decide +kernel
theorem dX1_differsAt_10 : decode cX1_differsAt 10 = .ok (.bipush 16, 2) := by decide +kernel
theorem dX1_differsAt_12 : decode cX1_differsAt 12 = .ok (.if_icmp .ge 32, 3) := by decide +kernel
theorem dX1_differsAt_15 : decode cX1_differsAt 15 = .ok (.aload_n 0, 1) := by decide +kernel
theorem dX1_differsAt_16 : decode cX1_differsAt 16 = .ok (.getfield 18, 3) := by decide +kernel
theorem dX1_differsAt_19 : decode cX1_differsAt 19 = .ok (.iload_n 3, 1) := by decide +kernel
theorem dX1_differsAt_20 : decode cX1_differsAt 20 = .ok (.iload 4, 2) := by decide +kernel
theorem dX1_differsAt_22 : decode cX1_differsAt 22 = .ok (.iadd, 1) := by decide +kernel
theorem dX1_differsAt_23 : decode cX1_differsAt 23 = .ok (.baload, 1) := by decide +kernel
theorem dX1_differsAt_24 : decode cX1_differsAt 24 = .ok (.aload_n 1, 1) := by decide +kernel
theorem dX1_differsAt_25 : decode cX1_differsAt 25 = .ok (.getfield 18, 3) := by decide +kernel
theorem dX1_differsAt_28 : decode cX1_differsAt 28 = .ok (.iload_n 3, 1) := by decide +kernel
theorem dX1_differsAt_29 : decode cX1_differsAt 29 = .ok (.iload 4, 2) := by decide +kernel
theorem dX1_differsAt_31 : decode cX1_differsAt 31 = .ok (.iadd, 1) := by decide +kernel
theorem dX1_differsAt_32 : decode cX1_differsAt 32 = .ok (.baload, 1) := by decide +kernel
theorem dX1_differsAt_33 : decode cX1_differsAt 33 = .ok (.if_icmp .eq 5, 3) := by decide +kernel
theorem dX1_differsAt_36 : decode cX1_differsAt 36 = .ok (.iconst 1, 1) := by decide +kernel
theorem dX1_differsAt_37 : decode cX1_differsAt 37 = .ok (.ireturn, 1) := by decide +kernel
theorem dX1_differsAt_38 : decode cX1_differsAt 38 = .ok (.iinc 4 1, 3) := by decide +kernel
theorem dX1_differsAt_41 : decode cX1_differsAt 41 = .ok (.goto (-33), 3) := by decide +kernel
theorem dX1_differsAt_44 : decode cX1_differsAt 44 = .ok (.iconst 0, 1) := by decide +kernel
theorem dX1_differsAt_45 : decode cX1_differsAt 45 = .ok (.ireturn, 1) := by decide +kernel
theorem dX2_init_0 : decode cX2_init 0 = .ok (.aload_n 0, 1) := by decide +kernel
theorem dX2_init_1 : decode cX2_init 1 = .ok (.invokespecial 3, 3) := by decide +kernel
theorem dX2_init_4 : decode cX2_init 4 = .ok (.aload_n 0, 1) := by decide +kernel
theorem dX2_init_5 : decode cX2_init 5 = .ok (.bipush 40, 2) := by decide +kernel
theorem dX2_init_7 : decode cX2_init 7 = .ok (.newarray .int, 2) := by decide +kernel
theorem dX2_init_9 : decode cX2_init 9 = .ok (.putfield 9, 3) := by decide +kernel
theorem dX2_init_12 : decode cX2_init 12 = .ok (.aload_n 0, 1) := by decide +kernel
theorem dX2_init_13 : decode cX2_init 13 = .ok (.bipush 40, 2) := by decide +kernel
theorem dX2_init_15 : decode cX2_init 15 = .ok (.newarray .int, 2) := by decide +kernel
theorem dX2_init_17 : decode cX2_init 17 = .ok (.putfield 15, 3) := by decide +kernel
theorem dX2_init_20 : decode cX2_init 20 = .ok (.aload_n 0, 1) := by decide +kernel
theorem dX2_init_21 : decode cX2_init 21 = .ok (.bipush 40, 2) := by decide +kernel
theorem dX2_init_23 : decode cX2_init 23 = .ok (.newarray .byte, 2) := by decide +kernel
theorem dX2_init_25 : decode cX2_init 25 = .ok (.putfield 18, 3) := by decide +kernel
theorem dX2_init_28 : decode cX2_init 28 = .ok (.aload_n 0, 1) := by decide +kernel
theorem dX2_init_29 : decode cX2_init 29 = .ok (.iconst 0, 1) := by decide +kernel
theorem dX2_init_30 : decode cX2_init 30 = .ok (.putfield 22, 3) := by decide +kernel
theorem dX2_init_33 : decode cX2_init 33 = .ok (.return_, 1) := by decide +kernel
theorem dX2_append_0 : decode cX2_append 0 = .ok (.aload_n 0, 1) := by decide +kernel
theorem dX2_append_1 : decode cX2_append 1 = .ok (.getfield 22, 3) := by decide +kernel
theorem dX2_append_4 : decode cX2_append 4 = .ok (.bipush 40, 2) := by decide +kernel
theorem dX2_append_6 : decode cX2_append 6 = .ok (.if_icmp .ge 43, 3) := by decide +kernel
theorem dX2_append_9 : decode cX2_append 9 = .ok (.aload_n 0, 1) := by decide +kernel
theorem dX2_append_10 : decode cX2_append 10 = .ok (.getfield 9, 3) := by decide +kernel
theorem dX2_append_13 : decode cX2_append 13 = .ok (.aload_n 0, 1) := by decide +kernel
theorem dX2_append_14 : decode cX2_append 14 = .ok (.getfield 22, 3) := by decide +kernel
theorem dX2_append_17 : decode cX2_append 17 = .ok (.iload_n 1, 1) := by decide +kernel
theorem dX2_append_18 : decode cX2_append 18 = .ok (.iastore, 1) := by decide +kernel
theorem dX2_append_19 : decode cX2_append 19 = .ok (.aload_n 0, 1) := by decide +kernel
theorem dX2_append_20 : decode cX2_append 20 = .ok (.getfield 15, 3) := by decide +kernel
theorem dX2_append_23 : decode cX2_append 23 = .ok (.aload_n 0, 1) := by decide +kernel
theorem dX2_append_24 : decode cX2_append 24 = .ok (.getfield 22, 3) := by decide +kernel
theorem dX2_append_27 : decode cX2_append 27 = .ok (.iload_n 2, 1) := by decide +kernel
theorem dX2_append_28 : decode cX2_append 28 = .ok (.iastore, 1) := by decide +kernel
theorem dX2_append_29 : decode cX2_append 29 = .ok (.aload_n 0, 1) := by decide +kernel
theorem dX2_append_30 : decode cX2_append 30 = .ok (.getfield 18, 3) := by decide +kernel
theorem dX2_append_33 : decode cX2_append 33 = .ok (.aload_n 0, 1) := by decide +kernel
theorem dX2_append_34 : decode cX2_append 34 = .ok (.getfield 22, 3) := by decide +kernel
theorem dX2_append_37 : decode cX2_append 37 = .ok (.iload_n 3, 1) := by decide +kernel
theorem dX2_append_38 : decode cX2_append 38 = .ok (.bastore, 1) := by decide +kernel
theorem dX2_append_39 : decode cX2_append 39 = .ok (.aload_n 0, 1) := by decide +kernel
theorem dX2_append_40 : decode cX2_append 40 = .ok (.dup, 1) := by decide +kernel
theorem dX2_append_41 : decode cX2_append 41 = .ok (.getfield 22, 3) := by decide +kernel
theorem dX2_append_44 : decode cX2_append 44 = .ok (.iconst 1, 1) := by decide +kernel
theorem dX2_append_45 : decode cX2_append 45 = .ok (.iadd, 1) := by decide +kernel
theorem dX2_append_46 : decode cX2_append 46 = .ok (.putfield 22, 3) := by decide +kernel
theorem dX2_append_49 : decode cX2_append 49 = .ok (.return_, 1) := by decide +kernel
theorem dX2_drop_0 : decode cX2_drop 0 = .ok (.aload_n 0, 1) := by decide +kernel
theorem dX2_drop_1 : decode cX2_drop 1 = .ok (.iconst 0, 1) := by decide +kernel
theorem dX2_drop_2 : decode cX2_drop 2 = .ok (.putfield 22, 3) := by decide +kernel
theorem dX2_drop_5 : decode cX2_drop 5 = .ok (.return_, 1) := by decide +kernel
set_option maxRecDepth 20000 in
theorem ggX3_init_X3_held : GoodIn wsX3_init wsX3_held := goodIn_r _ [24, 25, 26, 27, 28, 29, 30, 31] (by decide +kernel) (by decide +kernel)
set_option maxRecDepth 20000 in
theorem gX3_init_X3_held : GoodIn wsX3_init (va_wsS RX3 9 yX3_held wsX3_held) := goodIn_app (goodIn_of _ (by decide +kernel)) ggX3_init_X3_held
set_option maxRecDepth 20000 in
theorem ggX3_init_X1_init : GoodIn wsX3_init wsX1_init := goodIn_r _ [34, 35, 2, 3, 36, 37, 38, 39, 40, 41, 42, 43, 44, 45, 46, 47, 48, 49, 8, 50, 51, 52, 53, 54, 55, 56, 57, 58, 59, 81, 82, 83, 84, 85, 86, 87, 88, 89] (by decide +kernel) (by decide +kernel)
set_option maxRecDepth 20000 in
theorem gX3_init_X1_init : GoodIn wsX3_init (wsX1_init) := ggX3_init_X1_init
set_option maxRecDepth 20000 in
theorem ggX3_init_X2_init : GoodIn wsX3_init wsX2_init := goodIn_r _ [61, 62, 2, 3, 40, 63, 64, 38, 65, 66, 90, 91, 92, 93] (by decide +kernel) (by decide +kernel)
set_option maxRecDepth 20000 in
theorem gX3_init_X2_init_n38 : GoodIn wsX3_init (wsX2_init) := ggX3_init_X2_init
set_option maxRecDepth 20000 in
theorem ggX3_init_X0_init : GoodIn wsX3_init wsX0_init := goodIn_r _ [68, 69, 2, 3, 40, 70, 71, 72, 94, 95, 96] (by decide +kernel) (by decide +kernel)
set_option maxRecDepth 20000 in
theorem gX3_init_X0_init_n45 : GoodIn wsX3_init (wsX0_init) := ggX3_init_X0_init
