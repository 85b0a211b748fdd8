theorem dX3_init_0 : decode cX3_init 0 = .ok (.aload_n 0, 1) := by decide +kernel
theorem dX3_init_1 : decode cX3_init 1 = .ok (.invokespecial 1, 3) := by decide +kernel
theorem dX3_init_4 : decode cX3_init 4 = .ok (.aload_n 0, 1) := by decide +kernel
theorem dX3_init_5 : decode cX3_init 5 = .ok (.iload_n 1, 1) := by decide +kernel
theorem dX3_init_6 : decode cX3_init 6 = .ok (.iconst 1, 1) := by decide +kernel
theorem dX3_init_7 : decode cX3_init 7 = .ok (.bipush 12, 2) := by decide +kernel
theorem dX3_init_9 : decode cX3_init 9 = .ok (.invokestatic 9, 3) := by decide +kernel
theorem dX3_init_12 : decode cX3_init 12 = .ok (.putfield 13, 3) := by decide +kernel
theorem dX3_init_15 : decode cX3_init 15 = .ok (.aload_n 0, 1) := by decide +kernel
theorem dX3_init_16 : decode cX3_init 16 = .ok (.iload_n 2, 1) := by decide +kernel
theorem dX3_init_17 : decode cX3_init 17 = .ok (.iconst 1, 1) := by decide +kernel
theorem dX3_init_18 : decode cX3_init 18 = .ok (.bipush 8, 2) := by decide +kernel
theorem dX3_init_20 : decode cX3_init 20 = .ok (.invokestatic 9, 3) := by decide +kernel
theorem dX3_init_23 : decode cX3_init 23 = .ok (.putfield 17, 3) := by decide +kernel
theorem dX3_init_26 : decode cX3_init 26 = .ok (.aload_n 0, 1) := by decide +kernel
theorem dX3_init_27 : decode cX3_init 27 = .ok (.new 20, 3) := by decide +kernel
theorem dX3_init_30 : decode cX3_init 30 = .ok (.dup, 1) := by decide +kernel
theorem dX3_init_31 : decode cX3_init 31 = .ok (.aload_n 0, 1) := by decide +kernel
theorem dX3_init_32 : decode cX3_init 32 = .ok (.getfield 13, 3) := by decide +kernel
theorem dX3_init_35 : decode cX3_init 35 = .ok (.aload_n 0, 1) := by decide +kernel
theorem dX3_init_36 : decode cX3_init 36 = .ok (.getfield 17, 3) := by decide +kernel
theorem dX3_init_39 : decode cX3_init 39 = .ok (.invokespecial 22, 3) := by decide +kernel
theorem dX3_init_42 : decode cX3_init 42 = .ok (.putfield 25, 3) := by decide +kernel
theorem dX3_init_45 : decode cX3_init 45 = .ok (.aload_n 0, 1) := by decide +kernel
theorem dX3_init_46 : decode cX3_init 46 = .ok (.iconst 5, 1) := by decide +kernel
theorem dX3_init_47 : decode cX3_init 47 = .ok (.anewarray 20, 3) := by decide +kernel
theorem dX3_init_50 : decode cX3_init 50 = .ok (.putfield 29, 3) := by decide +kernel
theorem dX3_init_53 : decode cX3_init 53 = .ok (.aload_n 0, 1) := by decide +kernel
theorem dX3_init_54 : decode cX3_init 54 = .ok (.iconst 0, 1) := by decide +kernel
theorem dX3_init_55 : decode cX3_init 55 = .ok (.putfield 33, 3) := by decide +kernel
theorem dX3_init_58 : decode cX3_init 58 = .ok (.aload_n 0, 1) := by decide +kernel
theorem dX3_init_59 : decode cX3_init 59 = .ok (.new 36, 3) := by decide +kernel
theorem dX3_init_62 : decode cX3_init 62 = .ok (.dup, 1) := by decide +kernel
theorem dX3_init_63 : decode cX3_init 63 = .ok (.invokespecial 38, 3) := by decide +kernel
theorem dX3_init_66 : decode cX3_init 66 = .ok (.putfield 39, 3) := by decide +kernel
theorem dX3_init_69 : decode cX3_init 69 = .ok (.aload_n 0, 1) := by decide +kernel
theorem dX3_init_70 : decode cX3_init 70 = .ok (.new 43, 3) := by decide +kernel
theorem dX3_init_73 : decode cX3_init 73 = .ok (.dup, 1) := by decide +kernel
theorem dX3_init_74 : decode cX3_init 74 = .ok (.invokespecial 45, 3) := by decide +kernel
theorem dX3_init_77 : decode cX3_init 77 = .ok (.putfield 46, 3) := by decide +kernel
theorem dX3_init_80 : decode cX3_init 80 = .ok (.aload_n 0, 1) := by decide +kernel
theorem dX3_init_81 : decode cX3_init 81 = .ok (.iconst 0, 1) := by decide +kernel
theorem dX3_init_82 : decode cX3_init 82 = .ok (.putfield 50, 3) := by decide +kernel
theorem dX3_init_85 : decode cX3_init 85 = .ok (.return_, 1) := by decide +kernel
set_option maxRecDepth 20000 in
theorem ggX3_write_X3_hasSector : GoodIn wsX3_write wsX3_hasSector := goodIn_r _ [8, 9, 10, 11, 12, 7, 13, 14, 24, 25, 26, 27, 28, 29, 30, 31] (by decide +kernel) (by decide +kernel)
set_option maxRecDepth 20000 in
theorem gX3_write_X3_hasSector : GoodIn wsX3_write (wsV RX3 54 RX3 yX3_hasSector wsX3_hasSector) := goodIn_app (goodIn_of _ (by decide +kernel)) ggX3_write_X3_hasSector
set_option maxRecDepth 20000 in
theorem ggX3_write_X2_append : GoodIn wsX3_write wsX2_append := goodIn_r _ [19, 20, 21, 22, 23, 32, 33, 34, 35] (by decide +kernel) (by decide +kernel)
set_option maxRecDepth 20000 in
theorem gX3_write_X2_append : GoodIn wsX3_write (wsV RX3 61 RX2 yX2_append wsX2_append) := goodIn_app (goodIn_of _ (by decide +kernel)) ggX3_write_X2_append
theorem dX3_write_0 : decode cX3_write 0 = .ok (.aload_n 0, 1) := by decide +kernel
theorem dX3_write_1 : decode cX3_write 1 = .ok (.iload_n 1, 1) := by decide +kernel
theorem dX3_write_2 : decode cX3_write 2 = .ok (.iload_n 2, 1) := by decide +kernel
theorem dX3_write_3 : decode cX3_write 3 = .ok (.invokevirtual 54, 3) := by decide +kernel
theorem dX3_write_6 : decode cX3_write 6 = .ok (.ifCond .ne 6, 3) := by decide +kernel
theorem dX3_write_9 : decode cX3_write 9 = .ok (.bipush (-2), 2) := by decide +kernel
theorem dX3_write_11 : decode cX3_write 11 = .ok (.ireturn, 1) := by decide +kernel
theorem dX3_write_12 : decode cX3_write 12 = .ok (.aload_n 0, 1) := by decide +kernel
theorem dX3_write_13 : decode cX3_write 13 = .ok (.getfield 50, 3) := by decide +kernel
theorem dX3_write_16 : decode cX3_write 16 = .ok (.ifCond .eq 6, 3) := by decide +kernel
theorem dX3_write_19 : decode cX3_write 19 = .ok (.bipush (-5), 2) := by decide +kernel
theorem dX3_write_21 : decode cX3_write 21 = .ok (.ireturn, 1) := by decide +kernel
theorem dX3_write_22 : decode cX3_write 22 = .ok (.aload_n 0, 1) := by decide +kernel
theorem dX3_write_23 : decode cX3_write 23 = .ok (.getfield 39, 3) := by decide +kernel
theorem dX3_write_26 : decode cX3_write 26 = .ok (.getfield 58, 3) := by decide +kernel
theorem dX3_write_29 : decode cX3_write 29 = .ok (.bipush 40, 2) := by decide +kernel
theorem dX3_write_31 : decode cX3_write 31 = .ok (.if_icmp .lt 5, 3) := by decide +kernel
theorem dX3_write_34 : decode cX3_write 34 = .ok (.iconst (-1), 1) := by decide +kernel
theorem dX3_write_35 : decode cX3_write 35 = .ok (.ireturn, 1) := by decide +kernel
theorem dX3_write_36 : decode cX3_write 36 = .ok (.aload_n 0, 1) := by decide +kernel
theorem dX3_write_37 : decode cX3_write 37 = .ok (.getfield 39, 3) := by decide +kernel
theorem dX3_write_40 : decode cX3_write 40 = .ok (.iload_n 1, 1) := by decide +kernel
theorem dX3_write_41 : decode cX3_write 41 = .ok (.iload_n 2, 1) := by decide +kernel
theorem dX3_write_42 : decode cX3_write 42 = .ok (.iload_n 3, 1) := by decide +kernel
theorem dX3_write_43 : decode cX3_write 43 = .ok (.invokevirtual 61, 3) := by decide +kernel
theorem dX3_write_46 : decode cX3_write 46 = .ok (.aload_n 0, 1) := by decide +kernel
theorem dX3_write_47 : decode cX3_write 47 = .ok (.getfield 39, 3) := by decide +kernel
theorem dX3_write_50 : decode cX3_write 50 = .ok (.getfield 58, 3) := by decide +kernel
theorem dX3_write_53 : decode cX3_write 53 = .ok (.ireturn, 1) := by decide +kernel
set_option maxRecDepth 20000 in
theorem ggX3_read_X3_hasSector : GoodIn wsX3_read wsX3_hasSector := goodIn_r _ [10, 11, 12, 13, 14, 9, 15, 16, 37, 38, 39, 40, 41, 42, 43, 44] (by decide +kernel) (by decide +kernel)
set_option maxRecDepth 20000 in
theorem gX3_read_X3_hasSector : GoodIn wsX3_read (wsV RX3 54 RX3 yX3_hasSector wsX3_hasSector) := goodIn_app (goodIn_of _ (by decide +kernel)) ggX3_read_X3_hasSector
set_option maxRecDepth 20000 in
theorem ggX3_read_X3_isByteNumber : GoodIn wsX3_read wsX3_isByteNumber := goodIn_r _ [19] (by decide +kernel) (by decide +kernel)
set_option maxRecDepth 20000 in
theorem gX3_read_X3_isByteNumber : GoodIn wsX3_read (va_wsS RX3 65 yX3_isByteNumber wsX3_isByteNumber) := goodIn_app (goodIn_of _ (by decide +kernel)) ggX3_read_X3_isByteNumber
set_option maxRecDepth 20000 in
theorem ggX3_read_X1_firstByte : GoodIn wsX3_read wsX1_firstByte := goodIn_r _ [24, 25, 26, 27, 28, 23, 29, 30, 45, 46, 47, 48, 49, 50, 51, 52, 53] (by decide +kernel) (by decide +kernel)
set_option maxRecDepth 20000 in
theorem gX3_read_X1_firstByte : GoodIn wsX3_read (wsV RX3 80 RX1 yX1_firstByte wsX1_firstByte) := goodIn_app (goodIn_of _ (by decide +kernel)) ggX3_read_X1_firstByte
theorem dX3_read_0 : decode cX3_read 0 = .ok (.aload_n 0, 1) := by decide +kernel
theorem dX3_read_1 : decode cX3_read 1 = .ok (.iload_n 1, 1) := by decide +kernel
theorem dX3_read_2 : decode cX3_read 2 = .ok (.iload_n 2, 1) := by decide +kernel
theorem dX3_read_3 : decode cX3_read 3 = .ok (.invokevirtual 54, 3) := by decide +kernel
theorem dX3_read_6 : decode cX3_read 6 = .ok (.ifCond .eq 10, 3) := by decide +kernel
theorem dX3_read_9 : decode cX3_read 9 = .ok (.iload_n 3, 1) := by decide +kernel
theorem dX3_read_10 : decode cX3_read 10 = .ok (.invokestatic 65, 3) := by decide +kernel
theorem dX3_read_13 : decode cX3_read 13 = .ok (.ifCond .ne 13, 3) := by decide +kernel
theorem dX3_read_16 : decode cX3_read 16 = .ok (.new 69, 3) := by decide +kernel
theorem dX3_read_19 : decode cX3_read 19 = .ok (.dup, 1) := by decide +kernel
theorem dX3_read_20 : decode cX3_read 20 = .ok (.ldc 71, 2) := by decide +kernel
theorem dX3_read_22 : decode cX3_read 22 = .ok (.invokespecial 73, 3) := by decide +kernel
theorem dX3_read_25 : decode cX3_read 25 = .ok (.athrow, 1) := by decide +kernel
theorem dX3_read_26 : decode cX3_read 26 = .ok (.aload_n 0, 1) := by decide +kernel
theorem dX3_read_27 : decode cX3_read 27 = .ok (.getfield 25, 3) := by decide +kernel
theorem dX3_read_30 : decode cX3_read 30 = .ok (.getfield 76, 3) := by decide +kernel
theorem dX3_read_33 : decode cX3_read 33 = .ok (.aload_n 0, 1) := by decide +kernel
theorem dX3_read_34 : decode cX3_read 34 = .ok (.getfield 25, 3) := by decide +kernel
theorem dX3_read_37 : decode cX3_read 37 = .ok (.iload_n 1, 1) := by decide +kernel
theorem dX3_read_38 : decode cX3_read 38 = .ok (.iload_n 2, 1) := by decide +kernel
theorem dX3_read_39 : decode cX3_read 39 = .ok (.invokevirtual 80, 3) := by decide +kernel
theorem dX3_read_42 : decode cX3_read 42 = .ok (.iload_n 3, 1) := by decide +kernel
theorem dX3_read_43 : decode cX3_read 43 = .ok (.iadd, 1) := by decide +kernel
theorem dX3_read_44 : decode cX3_read 44 = .ok (.baload, 1) := by decide +kernel
theorem dX3_read_45 : decode cX3_read 45 = .ok (.ireturn, 1) := by decide +kernel
set_option maxRecDepth 20000 in
theorem ggX3_sync_X3_layFirst : GoodIn wsX3_sync wsX3_layFirst := goodIn_r _ [8, 9, 2, 10, 11, 12, 13, 14, 15, 16, 17, 18, 19, 20, 21, 22, 23, 24, 25, 26, 27, 28, 29, 30, 31, 32, 33, 34, 35, 36, 37, 38, 39, 40, 47, 48, 49, 50, 51, 52, 53, 54, 55, 56, 57, 58, 59, 60, 61, 62, 63, 64, 65, 66, 67] (by decide +kernel) (by decide +kernel)
set_option maxRecDepth 20000 in
theorem gX3_sync_X3_layFirst : GoodIn wsX3_sync (wsV RX3 84 RX3 yX3_layFirst wsX3_layFirst) := goodIn_app (goodIn_of _ (by decide +kernel)) ggX3_sync_X3_layFirst
set_option maxRecDepth 20000 in
theorem ggX3_sync_X2_drop : GoodIn wsX3_sync wsX2_drop := goodIn_r _ [45, 46, 55, 56, 57, 58] (by decide +kernel) (by decide +kernel)
set_option maxRecDepth 20000 in
theorem gX3_sync_X2_drop : GoodIn wsX3_sync (wsV RX3 88 RX2 yX2_drop wsX2_drop) := goodIn_app (goodIn_of _ (by decide +kernel)) ggX3_sync_X2_drop
theorem dX3_sync_0 : decode cX3_sync 0 = .ok (.aload_n 0, 1) := by decide +kernel
theorem dX3_sync_1 : decode cX3_sync 1 = .ok (.getfield 50, 3) := by decide +kernel
theorem dX3_sync_4 : decode cX3_sync 4 = .ok (.ifCond .eq 6, 3) := by decide +kernel
theorem dX3_sync_7 : decode cX3_sync 7 = .ok (.bipush (-5), 2) := by decide +kernel
theorem dX3_sync_9 : decode cX3_sync 9 = .ok (.ireturn, 1) := by decide +kernel
theorem dX3_sync_10 : decode cX3_sync 10 = .ok (.aload_n 0, 1) := by decide +kernel
theorem dX3_sync_11 : decode cX3_sync 11 = .ok (.getfield 39, 3) := by decide +kernel
theorem dX3_sync_14 : decode cX3_sync 14 = .ok (.getfield 58, 3) := by decide +kernel
theorem dX3_sync_17 : decode cX3_sync 17 = .ok (.istore_n 1, 1) := by decide +kernel
theorem dX3_sync_18 : decode cX3_sync 18 = .ok (.aload_n 0, 1) := by decide +kernel
theorem dX3_sync_19 : decode cX3_sync 19 = .ok (.iload_n 1, 1) := by decide +kernel
theorem dX3_sync_20 : decode cX3_sync 20 = .ok (.invokevirtual 84, 3) := by decide +kernel
theorem dX3_sync_23 : decode cX3_sync 23 = .ok (.aload_n 0, 1) := by decide +kernel
theorem dX3_sync_24 : decode cX3_sync 24 = .ok (.getfield 39, 3) := by decide +kernel
theorem dX3_sync_27 : decode cX3_sync 27 = .ok (.invokevirtual 88, 3) := by decide +kernel
theorem dX3_sync_30 : decode cX3_sync 30 = .ok (.iload_n 1, 1) := by decide +kernel
theorem dX3_sync_31 : decode cX3_sync 31 = .ok (.ireturn, 1) := by decide +kernel
set_option maxRecDepth 20000 in
theorem ggX3_cut_X3_held : GoodIn wsX3_cut wsX3_held := goodIn_r _ [11, 12, 13, 14, 15, 16, 17, 18] (by decide +kernel) (by decide +kernel)
set_option maxRecDepth 20000 in
theorem gX3_cut_X3_held : GoodIn wsX3_cut (va_wsS RX3 9 yX3_held wsX3_held) := goodIn_app (goodIn_of _ (by decide +kernel)) ggX3_cut_X3_held
set_option maxRecDepth 20000 in
theorem ggX3_cut_X3_layFirst : GoodIn wsX3_cut wsX3_layFirst := goodIn_r _ [22, 4, 2, 5, 6, 7, 23, 24, 25, 26, 27, 28, 29, 30, 31, 32, 33, 34, 35, 36, 37, 38, 39, 40, 41, 42, 43, 44, 45, 46, 47, 48, 49, 50, 61, 62, 63, 64, 65, 66, 67, 68, 69, 70, 71, 72, 73, 74, 75, 76, 77, 78, 79, 80, 81] (by decide +kernel) (by decide +kernel)
set_option maxRecDepth 20000 in
theorem gX3_cut_X3_layFirst : GoodIn wsX3_cut (wsV RX3 84 RX3 yX3_layFirst wsX3_layFirst) := goodIn_app (goodIn_of _ (by decide +kernel)) ggX3_cut_X3_layFirst
set_option maxRecDepth 20000 in
theorem ggX3_cut_X1_layTorn : GoodIn wsX3_cut wsX1_layTorn := goodIn_r _ [54, 30, 32, 33, 34, 26, 35, 36, 37, 38, 39, 40, 28, 41, 42, 43, 44, 45, 73, 74, 75, 76, 77, 78, 79, 80, 81] (by decide +kernel) (by decide +kernel)
set_option maxRecDepth 20000 in
theorem gX3_cut_X1_layTorn : GoodIn wsX3_cut (wsV RX3 101 RX1 yX1_layTorn wsX1_layTorn) := goodIn_app (goodIn_of _ (by decide +kernel)) ggX3_cut_X1_layTorn
set_option maxRecDepth 20000 in
theorem ggX3_cut_X2_drop : GoodIn wsX3_cut wsX2_drop := goodIn_r _ [59, 60, 69, 70, 71, 72] (by decide +kernel) (by decide +kernel)
set_option maxRecDepth 20000 in
theorem gX3_cut_X2_drop : GoodIn wsX3_cut (wsV RX3 88 RX2 yX2_drop wsX2_drop) := goodIn_app (goodIn_of _ (by decide +kernel)) ggX3_cut_X2_drop
theorem dX3_cut_0 : decode cX3_cut 0 = .ok (.aload_n 0, 1) := by decide +kernel
theorem dX3_cut_1 : decode cX3_cut 1 = .ok (.getfield 50, 3) := by decide +kernel
theorem dX3_cut_4 : decode cX3_cut 4 = .ok (.ifCond .eq 4, 3) := by decide +kernel
theorem dX3_cut_7 : decode cX3_cut 7 = .ok (.return_, 1) := by decide +kernel
theorem dX3_cut_8 : decode cX3_cut 8 = .ok (.iload_n 1, 1) := by decide +kernel
theorem dX3_cut_9 : decode cX3_cut 9 = .ok (.iconst 0, 1) := by decide +kernel
theorem dX3_cut_10 : decode cX3_cut 10 = .ok (.aload_n 0, 1) := by decide +kernel
theorem dX3_cut_11 : decode cX3_cut 11 = .ok (.getfield 39, 3) := by decide +kernel
theorem dX3_cut_14 : decode cX3_cut 14 = .ok (.getfield 58, 3) := by decide +kernel
theorem dX3_cut_17 : decode cX3_cut 17 = .ok (.invokestatic 9, 3) := by decide +kernel
theorem dX3_cut_20 : decode cX3_cut 20 = .ok (.istore_n 3, 1) := by decide +kernel
theorem dX3_cut_21 : decode cX3_cut 21 = .ok (.aload_n 0, 1) := by decide +kernel
theorem dX3_cut_22 : decode cX3_cut 22 = .ok (.iload_n 3, 1) := by decide +kernel
theorem dX3_cut_23 : decode cX3_cut 23 = .ok (.invokevirtual 84, 3) := by decide +kernel
theorem dX3_cut_26 : decode cX3_cut 26 = .ok (.iload_n 3, 1) := by decide +kernel
theorem dX3_cut_27 : decode cX3_cut 27 = .ok (.aload_n 0, 1) := by decide +kernel
theorem dX3_cut_28 : decode cX3_cut 28 = .ok (.getfield 39, 3) := by decide +kernel
theorem dX3_cut_31 : decode cX3_cut 31 = .ok (.getfield 58, 3) := by decide +kernel
theorem dX3_cut_34 : decode cX3_cut 34 = .ok (.if_icmp .ge 44, 3) := by decide +kernel
theorem dX3_cut_37 : decode cX3_cut 37 = .ok (.aload_n 0, 1) := by decide +kernel
theorem dX3_cut_38 : decode cX3_cut 38 = .ok (.getfield 25, 3) := by decide +kernel
theorem dX3_cut_41 : decode cX3_cut 41 = .ok (.aload_n 0, 1) := by decide +kernel
theorem dX3_cut_42 : decode cX3_cut 42 = .ok (.getfield 39, 3) := by decide +kernel
theorem dX3_cut_45 : decode cX3_cut 45 = .ok (.getfield 91, 3) := by decide +kernel
theorem dX3_cut_48 : decode cX3_cut 48 = .ok (.iload_n 3, 1) := by decide +kernel
theorem dX3_cut_49 : decode cX3_cut 49 = .ok (.iaload, 1) := by decide +kernel
theorem dX3_cut_50 : decode cX3_cut 50 = .ok (.aload_n 0, 1) := by decide +kernel
theorem dX3_cut_51 : decode cX3_cut 51 = .ok (.getfield 39, 3) := by decide +kernel
theorem dX3_cut_54 : decode cX3_cut 54 = .ok (.getfield 95, 3) := by decide +kernel
theorem dX3_cut_57 : decode cX3_cut 57 = .ok (.iload_n 3, 1) := by decide +kernel
theorem dX3_cut_58 : decode cX3_cut 58 = .ok (.iaload, 1) := by decide +kernel
theorem dX3_cut_59 : decode cX3_cut 59 = .ok (.aload_n 0, 1) := by decide +kernel
theorem dX3_cut_60 : decode cX3_cut 60 = .ok (.getfield 39, 3) := by decide +kernel
theorem dX3_cut_63 : decode cX3_cut 63 = .ok (.getfield 98, 3) := by decide +kernel
theorem dX3_cut_66 : decode cX3_cut 66 = .ok (.iload_n 3, 1) := by decide +kernel
theorem dX3_cut_67 : decode cX3_cut 67 = .ok (.baload, 1) := by decide +kernel
theorem dX3_cut_68 : decode cX3_cut 68 = .ok (.iload_n 2, 1) := by decide +kernel
theorem dX3_cut_69 : decode cX3_cut 69 = .ok (.iconst 0, 1) := by decide +kernel
theorem dX3_cut_70 : decode cX3_cut 70 = .ok (.bipush 16, 2) := by decide +kernel
theorem dX3_cut_72 : decode cX3_cut 72 = .ok (.invokestatic 9, 3) := by decide +kernel
theorem dX3_cut_75 : decode cX3_cut 75 = .ok (.invokevirtual 101, 3) := by decide +kernel
theorem dX3_cut_78 : decode cX3_cut 78 = .ok (.aload_n 0, 1) := by decide +kernel
theorem dX3_cut_79 : decode cX3_cut 79 = .ok (.getfield 39, 3) := by decide +kernel
theorem dX3_cut_82 : decode cX3_cut 82 = .ok (.invokevirtual 88, 3) := by decide +kernel
theorem dX3_cut_85 : decode cX3_cut 85 = .ok (.aload_n 0, 1) := by decide +kernel
theorem dX3_cut_86 : decode cX3_cut 86 = .ok (.iconst 1, 1) := by decide +kernel
theorem dX3_cut_87 : decode cX3_cut 87 = .ok (.putfield 50, 3) := by decide +kernel
theorem dX3_cut_90 : decode cX3_cut 90 = .ok (.return_, 1) := by decide +kernel
set_option maxRecDepth 20000 in
theorem ggX3_start_X1_wrongSectors : GoodIn wsX3_start wsX1_wrongSectors := goodIn_r _ [7, 8, 9, 10, 11, 12, 6, 13, 14, 15, 16, 17, 18, 19, 20, 21, 22, 23, 24, 25, 34, 35, 36, 37, 38, 39, 40, 41, 42] (by decide +kernel) (by decide +kernel)
set_option maxRecDepth 20000 in
theorem gX3_start_X1_wrongSectors : GoodIn wsX3_start (wsV RX3 105 RX1 yX1_wrongSectors wsX1_wrongSectors) := goodIn_app (goodIn_of _ (by decide +kernel)) ggX3_start_X1_wrongSectors
theorem dX3_start_0 : decode cX3_start 0 = .ok (.aload_n 0, 1) := by decide +kernel
theorem dX3_start_1 : decode cX3_start 1 = .ok (.getfield 50, 3) := by decide +kernel
theorem dX3_start_4 : decode cX3_start 4 = .ok (.ifCond .ne 6, 3) := by decide +kernel
theorem dX3_start_7 : decode cX3_start 7 = .ok (.bipush (-5), 2) := by decide +kernel
theorem dX3_start_9 : decode cX3_start 9 = .ok (.ireturn, 1) := by decide +kernel
theorem dX3_start_10 : decode cX3_start 10 = .ok (.aload_n 0, 1) := by decide +kernel
theorem dX3_start_11 : decode cX3_start 11 = .ok (.iconst 0, 1) := by decide +kernel
theorem dX3_start_12 : decode cX3_start 12 = .ok (.putfield 50, 3) := by decide +kernel
theorem dX3_start_15 : decode cX3_start 15 = .ok (.aload_n 0, 1) := by decide +kernel
theorem dX3_start_16 : decode cX3_start 16 = .ok (.getfield 25, 3) := by decide +kernel
theorem dX3_start_19 : decode cX3_start 19 = .ok (.invokevirtual 105, 3) := by decide +kernel
theorem dX3_start_22 : decode cX3_start 22 = .ok (.ireturn, 1) := by decide +kernel
set_option maxRecDepth 20000 in
theorem ggX3_space_X3_hasTrack : GoodIn wsX3_space wsX3_hasTrack := goodIn_r _ [8, 9, 10, 11, 12, 13, 14, 15, 16, 17] (by decide +kernel) (by decide +kernel)
set_option maxRecDepth 20000 in
theorem gX3_space_X3_hasTrack : GoodIn wsX3_space (wsV RX3 109 RX3 yX3_hasTrack wsX3_hasTrack) := goodIn_app (goodIn_of _ (by decide +kernel)) ggX3_space_X3_hasTrack
theorem dX3_space_0 : decode cX3_space 0 = .ok (.iload_n 1, 1) := by decide +kernel
theorem dX3_space_1 : decode cX3_space 1 = .ok (.ifCond .lt 16, 3) := by decide +kernel
theorem dX3_space_4 : decode cX3_space 4 = .ok (.iload_n 1, 1) := by decide +kernel
theorem dX3_space_5 : decode cX3_space 5 = .ok (.iconst 1, 1) := by decide +kernel
theorem dX3_space_6 : decode cX3_space 6 = .ok (.if_icmp .gt 11, 3) := by decide +kernel
theorem dX3_space_9 : decode cX3_space 9 = .ok (.aload_n 0, 1) := by decide +kernel
theorem dX3_space_10 : decode cX3_space 10 = .ok (.iload_n 2, 1) := by decide +kernel
theorem dX3_space_11 : decode cX3_space 11 = .ok (.invokevirtual 109, 3) := by decide +kernel
theorem dX3_space_14 : decode cX3_space 14 = .ok (.ifCond .ne 6, 3) := by decide +kernel
theorem dX3_space_17 : decode cX3_space 17 = .ok (.bipush (-2), 2) := by decide +kernel
theorem dX3_space_19 : decode cX3_space 19 = .ok (.ireturn, 1) := by decide +kernel
theorem dX3_space_20 : decode cX3_space 20 = .ok (.iload_n 1, 1) := by decide +kernel
theorem dX3_space_21 : decode cX3_space 21 = .ok (.ifCond .ne 15, 3) := by decide +kernel
theorem dX3_space_24 : decode cX3_space 24 = .ok (.aload_n 0, 1) := by decide +kernel
theorem dX3_space_25 : decode cX3_space 25 = .ok (.getfield 25, 3) := by decide +kernel
theorem dX3_space_28 : decode cX3_space 28 = .ok (.getfield 112, 3) := by decide +kernel
theorem dX3_space_31 : decode cX3_space 31 = .ok (.iload_n 2, 1) := by decide +kernel
theorem dX3_space_32 : decode cX3_space 32 = .ok (.iaload, 1) := by decide +kernel
theorem dX3_space_33 : decode cX3_space 33 = .ok (.goto 12, 3) := by decide +kernel
theorem dX3_space_36 : decode cX3_space 36 = .ok (.aload_n 0, 1) := by decide +kernel
theorem dX3_space_37 : decode cX3_space 37 = .ok (.getfield 25, 3) := by decide +kernel
theorem dX3_space_40 : decode cX3_space 40 = .ok (.getfield 115, 3) := by decide +kernel
theorem dX3_space_43 : decode cX3_space 43 = .ok (.iload_n 2, 1) := by decide +kernel
theorem dX3_space_44 : decode cX3_space 44 = .ok (.iaload, 1) := by decide +kernel
theorem dX3_space_45 : decode cX3_space 45 = .ok (.ireturn, 1) := by decide +kernel
set_option maxRecDepth 20000 in
theorem ggX3_mend_X1_mendRows : GoodIn wsX3_mend wsX1_mendRows := goodIn_r _ [7, 8, 9, 10, 11, 12, 13, 6, 14, 15, 16, 17, 18, 19, 20, 21, 22, 23, 24, 25, 34, 35, 36, 37, 38, 39, 40, 41, 42] (by decide +kernel) (by decide +kernel)
set_option maxRecDepth 20000 in
theorem gX3_mend_X1_mendRows : GoodIn wsX3_mend (wsV RX3 118 RX1 yX1_mendRows wsX1_mendRows) := goodIn_app (goodIn_of _ (by decide +kernel)) ggX3_mend_X1_mendRows
theorem dX3_mend_0 : decode cX3_mend 0 = .ok (.aload_n 0, 1) := by decide +kernel
theorem dX3_mend_1 : decode cX3_mend 1 = .ok (.getfield 50, 3) := by decide +kernel
theorem dX3_mend_4 : decode cX3_mend 4 = .ok (.ifCond .eq 6, 3) := by decide +kernel
theorem dX3_mend_7 : decode cX3_mend 7 = .ok (.bipush (-5), 2) := by decide +kernel
theorem dX3_mend_9 : decode cX3_mend 9 = .ok (.ireturn, 1) := by decide +kernel
theorem dX3_mend_10 : decode cX3_mend 10 = .ok (.aload_n 0, 1) := by decide +kernel
theorem dX3_mend_11 : decode cX3_mend 11 = .ok (.getfield 25, 3) := by decide +kernel
theorem dX3_mend_14 : decode cX3_mend 14 = .ok (.invokevirtual 118, 3) := by decide +kernel
theorem dX3_mend_17 : decode cX3_mend 17 = .ok (.ireturn, 1) := by decide +kernel
set_option maxRecDepth 20000 in
theorem ggX3_poke_X3_hasSector : GoodIn wsX3_poke wsX3_hasSector := goodIn_r _ [7, 8, 9, 10, 11, 6, 12, 13, 28, 29, 30, 31, 32, 33, 34, 35] (by decide +kernel) (by decide +kernel)
set_option maxRecDepth 20000 in
theorem gX3_poke_X3_hasSector : GoodIn wsX3_poke (wsV RX3 54 RX3 yX3_hasSector wsX3_hasSector) := goodIn_app (goodIn_of _ (by decide +kernel)) ggX3_poke_X3_hasSector
set_option maxRecDepth 20000 in
theorem ggX3_poke_X3_isByteNumber : GoodIn wsX3_poke wsX3_isByteNumber := goodIn_r _ [16] (by decide +kernel) (by decide +kernel)
set_option maxRecDepth 20000 in
theorem gX3_poke_X3_isByteNumber : GoodIn wsX3_poke (va_wsS RX3 65 yX3_isByteNumber wsX3_isByteNumber) := goodIn_app (goodIn_of _ (by decide +kernel)) ggX3_poke_X3_isByteNumber
set_option maxRecDepth 20000 in
theorem ggX3_poke_X1_firstByte : GoodIn wsX3_poke wsX1_firstByte := goodIn_r _ [21, 22, 23, 24, 25, 20, 26, 27, 36, 37, 38, 39, 40, 41, 42, 43, 44] (by decide +kernel) (by decide +kernel)
set_option maxRecDepth 20000 in
theorem gX3_poke_X1_firstByte : GoodIn wsX3_poke (wsV RX3 80 RX1 yX1_firstByte wsX1_firstByte) := goodIn_app (goodIn_of _ (by decide +kernel)) ggX3_poke_X1_firstByte
theorem dX3_poke_0 : decode cX3_poke 0 = .ok (.aload_n 0, 1) := by decide +kernel
theorem dX3_poke_1 : decode cX3_poke 1 = .ok (.iload_n 1, 1) := by decide +kernel
theorem dX3_poke_2 : decode cX3_poke 2 = .ok (.iload_n 2, 1) := by decide +kernel
theorem dX3_poke_3 : decode cX3_poke 3 = .ok (.invokevirtual 54, 3) := by decide +kernel
theorem dX3_poke_6 : decode cX3_poke 6 = .ok (.ifCond .ne 6, 3) := by decide +kernel
theorem dX3_poke_9 : decode cX3_poke 9 = .ok (.bipush (-2), 2) := by decide +kernel
theorem dX3_poke_11 : decode cX3_poke 11 = .ok (.ireturn, 1) := by decide +kernel
theorem dX3_poke_12 : decode cX3_poke 12 = .ok (.iload 4, 2) := by decide +kernel
theorem dX3_poke_14 : decode cX3_poke 14 = .ok (.sipush 255, 3) := by decide +kernel
theorem dX3_poke_17 : decode cX3_poke 17 = .ok (.iand, 1) := by decide +kernel
theorem dX3_poke_18 : decode cX3_poke 18 = .ok (.istore 5, 2) := by decide +kernel
theorem dX3_poke_20 : decode cX3_poke 20 = .ok (.iload_n 3, 1) := by decide +kernel
theorem dX3_poke_21 : decode cX3_poke 21 = .ok (.invokestatic 65, 3) := by decide +kernel
theorem dX3_poke_24 : decode cX3_poke 24 = .ok (.ifCond .eq 8, 3) := by decide +kernel
theorem dX3_poke_27 : decode cX3_poke 27 = .ok (.iload 5, 2) := by decide +kernel
theorem dX3_poke_29 : decode cX3_poke 29 = .ok (.ifCond .ne 6, 3) := by decide +kernel
theorem dX3_poke_32 : decode cX3_poke 32 = .ok (.bipush (-4), 2) := by decide +kernel
theorem dX3_poke_34 : decode cX3_poke 34 = .ok (.ireturn, 1) := by decide +kernel
theorem dX3_poke_35 : decode cX3_poke 35 = .ok (.aload_n 0, 1) := by decide +kernel
theorem dX3_poke_36 : decode cX3_poke 36 = .ok (.getfield 25, 3) := by decide +kernel
theorem dX3_poke_39 : decode cX3_poke 39 = .ok (.iload_n 1, 1) := by decide +kernel
theorem dX3_poke_40 : decode cX3_poke 40 = .ok (.iload_n 2, 1) := by decide +kernel
theorem dX3_poke_41 : decode cX3_poke 41 = .ok (.invokevirtual 80, 3) := by decide +kernel
theorem dX3_poke_44 : decode cX3_poke 44 = .ok (.iload_n 3, 1) := by decide +kernel
theorem dX3_poke_45 : decode cX3_poke 45 = .ok (.iadd, 1) := by decide +kernel
theorem dX3_poke_46 : decode cX3_poke 46 = .ok (.istore 6, 2) := by decide +kernel
theorem dX3_poke_48 : decode cX3_poke 48 = .ok (.aload_n 0, 1) := by decide +kernel
theorem dX3_poke_49 : decode cX3_poke 49 = .ok (.getfield 25, 3) := by decide +kernel
theorem dX3_poke_52 : decode cX3_poke 52 = .ok (.getfield 76, 3) := by decide +kernel
theorem dX3_poke_55 : decode cX3_poke 55 = .ok (.iload 6, 2) := by decide +kernel
theorem dX3_poke_57 : decode cX3_poke 57 = .ok (.baload, 1) := by decide +kernel
theorem dX3_poke_58 : decode cX3_poke 58 = .ok (.sipush 255, 3) := by decide +kernel
theorem dX3_poke_61 : decode cX3_poke 61 = .ok (.iand, 1) := by decide +kernel
theorem dX3_poke_62 : decode cX3_poke 62 = .ok (.istore 7, 2) := by decide +kernel
theorem dX3_poke_64 : decode cX3_poke 64 = .ok (.aload_n 0, 1) := by decide +kernel
theorem dX3_poke_65 : decode cX3_poke 65 = .ok (.getfield 25, 3) := by decide +kernel
theorem dX3_poke_68 : decode cX3_poke 68 = .ok (.getfield 76, 3) := by decide +kernel
theorem dX3_poke_71 : decode cX3_poke 71 = .ok (.iload 6, 2) := by decide +kernel
theorem dX3_poke_73 : decode cX3_poke 73 = .ok (.iload 7, 2) := by decide +kernel
theorem dX3_poke_75 : decode cX3_poke 75 = .ok (.iload 5, 2) := by decide +kernel
theorem dX3_poke_77 : decode cX3_poke 77 = .ok (.ixor, 1) := by decide +kernel
theorem dX3_poke_78 : decode cX3_poke 78 = .ok (.i2b, 1) := by decide +kernel
theorem dX3_poke_79 : decode cX3_poke 79 = .ok (.bastore, 1) := by decide +kernel
theorem dX3_poke_80 : decode cX3_poke 80 = .ok (.iload 7, 2) := by decide +kernel
theorem dX3_poke_82 : decode cX3_poke 82 = .ok (.ireturn, 1) := by decide +kernel
set_option maxRecDepth 20000 in
theorem ggX3_wrong_X1_wrongSectors : GoodIn wsX3_wrong wsX1_wrongSectors := goodIn_r _ [6, 7, 8, 9, 10, 11, 5, 12, 13, 14, 15, 16, 17, 18, 19, 20, 21, 22, 23, 24, 37, 38, 39, 40, 41, 42, 43, 44, 45] (by decide +kernel) (by decide +kernel)
set_option maxRecDepth 20000 in
theorem gX3_wrong_X1_wrongSectors : GoodIn wsX3_wrong (wsV RX3 105 RX1 yX1_wrongSectors wsX1_wrongSectors) := goodIn_app (goodIn_of _ (by decide +kernel)) ggX3_wrong_X1_wrongSectors
set_option maxRecDepth 20000 in
theorem ggX3_wrong_X1_firstWrong : GoodIn wsX3_wrong wsX1_firstWrong := goodIn_r _ [28, 7, 8, 9, 10, 11, 5, 12, 13, 14, 15, 16, 17, 18, 19, 20, 21, 22, 23, 24, 37, 38, 39, 40, 41, 42, 43, 44, 45] (by decide +kernel) (by decide +kernel)
set_option maxRecDepth 20000 in
theorem gX3_wrong_X1_firstWrong : GoodIn wsX3_wrong (wsV RX3 121 RX1 yX1_firstWrong wsX1_firstWrong) := goodIn_app (goodIn_of _ (by decide +kernel)) ggX3_wrong_X1_firstWrong
theorem dX3_wrong_0 : decode cX3_wrong 0 = .ok (.iload_n 1, 1) := by decide +kernel
theorem dX3_wrong_1 : decode cX3_wrong 1 = .ok (.ifCond .ne 11, 3) := by decide +kernel
theorem dX3_wrong_4 : decode cX3_wrong 4 = .ok (.aload_n 0, 1) := by decide +kernel
theorem dX3_wrong_5 : decode cX3_wrong 5 = .ok (.getfield 25, 3) := by decide +kernel
theorem dX3_wrong_8 : decode cX3_wrong 8 = .ok (.invokevirtual 105, 3) := by decide +kernel
theorem dX3_wrong_11 : decode cX3_wrong 11 = .ok (.ireturn, 1) := by decide +kernel
theorem dX3_wrong_12 : decode cX3_wrong 12 = .ok (.iload_n 1, 1) := by decide +kernel
theorem dX3_wrong_13 : decode cX3_wrong 13 = .ok (.iconst 1, 1) := by decide +kernel
theorem dX3_wrong_14 : decode cX3_wrong 14 = .ok (.if_icmp .eq 10, 3) := by decide +kernel
theorem dX3_wrong_17 : decode cX3_wrong 17 = .ok (.iload_n 1, 1) := by decide +kernel
theorem dX3_wrong_18 : decode cX3_wrong 18 = .ok (.iconst 2, 1) := by decide +kernel
theorem dX3_wrong_19 : decode cX3_wrong 19 = .ok (.if_icmp .eq 5, 3) := by decide +kernel
theorem dX3_wrong_22 : decode cX3_wrong 22 = .ok (.iconst (-1), 1) := by decide +kernel
theorem dX3_wrong_23 : decode cX3_wrong 23 = .ok (.ireturn, 1) := by decide +kernel
theorem dX3_wrong_24 : decode cX3_wrong 24 = .ok (.aload_n 0, 1) := by decide +kernel
theorem dX3_wrong_25 : decode cX3_wrong 25 = .ok (.getfield 25, 3) := by decide +kernel
theorem dX3_wrong_28 : decode cX3_wrong 28 = .ok (.invokevirtual 121, 3) := by decide +kernel
theorem dX3_wrong_31 : decode cX3_wrong 31 = .ok (.istore_n 2, 1) := by decide +kernel
theorem dX3_wrong_32 : decode cX3_wrong 32 = .ok (.iload_n 2, 1) := by decide +kernel
theorem dX3_wrong_33 : decode cX3_wrong 33 = .ok (.iconst (-1), 1) := by decide +kernel
theorem dX3_wrong_34 : decode cX3_wrong 34 = .ok (.if_icmp .ne 5, 3) := by decide +kernel
theorem dX3_wrong_37 : decode cX3_wrong 37 = .ok (.iconst (-1), 1) := by decide +kernel
theorem dX3_wrong_38 : decode cX3_wrong 38 = .ok (.ireturn, 1) := by decide +kernel
theorem dX3_wrong_39 : decode cX3_wrong 39 = .ok (.iload_n 1, 1) := by decide +kernel
theorem dX3_wrong_40 : decode cX3_wrong 40 = .ok (.iconst 1, 1) := by decide +kernel
theorem dX3_wrong_41 : decode cX3_wrong 41 = .ok (.if_icmp .ne 10, 3) := by decide +kernel
theorem dX3_wrong_44 : decode cX3_wrong 44 = .ok (.iload_n 2, 1) := by decide +kernel
theorem dX3_wrong_45 : decode cX3_wrong 45 = .ok (.bipush 8, 2) := by decide +kernel
theorem dX3_wrong_47 : decode cX3_wrong 47 = .ok (.idiv, 1) := by decide +kernel
theorem dX3_wrong_48 : decode cX3_wrong 48 = .ok (.goto 7, 3) := by decide +kernel
theorem dX3_wrong_51 : decode cX3_wrong 51 = .ok (.iload_n 2, 1) := by decide +kernel
theorem dX3_wrong_52 : decode cX3_wrong 52 = .ok (.bipush 8, 2) := by decide +kernel
theorem dX3_wrong_54 : decode cX3_wrong 54 = .ok (.irem, 1) := by decide +kernel
theorem dX3_wrong_55 : decode cX3_wrong 55 = .ok (.ireturn, 1) := by decide +kernel
set_option maxRecDepth 20000 in
theorem ggX3_alternate_X3_hasTrack : GoodIn wsX3_alternate wsX3_hasTrack := goodIn_r _ [8, 9, 46, 47, 48, 49, 50, 51, 52, 53] (by decide +kernel) (by decide +kernel)
set_option maxRecDepth 20000 in
theorem gX3_alternate_X3_hasTrack : GoodIn wsX3_alternate (wsV RX3 109 RX3 yX3_hasTrack wsX3_hasTrack) := goodIn_app (goodIn_of _ (by decide +kernel)) ggX3_alternate_X3_hasTrack
set_option maxRecDepth 20000 in
theorem ggX3_alternate_X1_isSent : GoodIn wsX3_alternate wsX1_isSent := goodIn_r _ [14, 15, 16, 54, 55, 56, 57, 58, 59, 60, 61, 62] (by decide +kernel) (by decide +kernel)
set_option maxRecDepth 20000 in
theorem gX3_alternate_X1_isSent : GoodIn wsX3_alternate (wsV RX3 124 RX1 yX1_isSent wsX1_isSent) := goodIn_app (goodIn_of _ (by decide +kernel)) ggX3_alternate_X1_isSent
set_option maxRecDepth 20000 in
theorem ggX3_alternate_X1_send : GoodIn wsX3_alternate wsX1_send := goodIn_r _ [20, 16, 21, 22, 23, 24, 25, 26, 27, 15, 28, 29, 30, 13, 31, 32, 33, 34, 35, 36, 37, 38, 39, 40, 41, 42, 43, 44, 45, 54, 55, 56, 57, 58, 59, 60, 61, 62] (by decide +kernel) (by decide +kernel)
set_option maxRecDepth 20000 in
theorem gX3_alternate_X1_send : GoodIn wsX3_alternate (wsV RX3 130 RX1 yX1_send wsX1_send) := goodIn_app (goodIn_of _ (by decide +kernel)) ggX3_alternate_X1_send
theorem dX3_alternate_0 : decode cX3_alternate 0 = .ok (.aload_n 0, 1) := by decide +kernel
theorem dX3_alternate_1 : decode cX3_alternate 1 = .ok (.iload_n 1, 1) := by decide +kernel
theorem dX3_alternate_2 : decode cX3_alternate 2 = .ok (.invokevirtual 109, 3) := by decide +kernel
theorem dX3_alternate_5 : decode cX3_alternate 5 = .ok (.ifCond .ne 6, 3) := by decide +kernel
theorem dX3_alternate_8 : decode cX3_alternate 8 = .ok (.bipush (-2), 2) := by decide +kernel
theorem dX3_alternate_10 : decode cX3_alternate 10 = .ok (.ireturn, 1) := by decide +kernel
theorem dX3_alternate_11 : decode cX3_alternate 11 = .ok (.aload_n 0, 1) := by decide +kernel
theorem dX3_alternate_12 : decode cX3_alternate 12 = .ok (.getfield 50, 3) := by decide +kernel
theorem dX3_alternate_15 : decode cX3_alternate 15 = .ok (.ifCond .eq 6, 3) := by decide +kernel
theorem dX3_alternate_18 : decode cX3_alternate 18 = .ok (.bipush (-5), 2) := by decide +kernel
theorem dX3_alternate_20 : decode cX3_alternate 20 = .ok (.ireturn, 1) := by decide +kernel
theorem dX3_alternate_21 : decode cX3_alternate 21 = .ok (.aload_n 0, 1) := by decide +kernel
theorem dX3_alternate_22 : decode cX3_alternate 22 = .ok (.getfield 25, 3) := by decide +kernel
theorem dX3_alternate_25 : decode cX3_alternate 25 = .ok (.iload_n 1, 1) := by decide +kernel
theorem dX3_alternate_26 : decode cX3_alternate 26 = .ok (.invokevirtual 124, 3) := by decide +kernel
theorem dX3_alternate_29 : decode cX3_alternate 29 = .ok (.ifCond .ne 14, 3) := by decide +kernel
theorem dX3_alternate_32 : decode cX3_alternate 32 = .ok (.aload_n 0, 1) := by decide +kernel
theorem dX3_alternate_33 : decode cX3_alternate 33 = .ok (.getfield 25, 3) := by decide +kernel
theorem dX3_alternate_36 : decode cX3_alternate 36 = .ok (.getfield 127, 3) := by decide +kernel
theorem dX3_alternate_39 : decode cX3_alternate 39 = .ok (.iconst 2, 1) := by decide +kernel
theorem dX3_alternate_40 : decode cX3_alternate 40 = .ok (.if_icmp .lt 5, 3) := by decide +kernel
theorem dX3_alternate_43 : decode cX3_alternate 43 = .ok (.iconst 0, 1) := by decide +kernel
theorem dX3_alternate_44 : decode cX3_alternate 44 = .ok (.ireturn, 1) := by decide +kernel
theorem dX3_alternate_45 : decode cX3_alternate 45 = .ok (.aload_n 0, 1) := by decide +kernel
theorem dX3_alternate_46 : decode cX3_alternate 46 = .ok (.getfield 25, 3) := by decide +kernel
theorem dX3_alternate_49 : decode cX3_alternate 49 = .ok (.iload_n 1, 1) := by decide +kernel
theorem dX3_alternate_50 : decode cX3_alternate 50 = .ok (.invokevirtual 130, 3) := by decide +kernel
theorem dX3_alternate_53 : decode cX3_alternate 53 = .ok (.ireturn, 1) := by decide +kernel
set_option maxRecDepth 20000 in
theorem ggX3_dump_X1_init : GoodIn wsX3_dump wsX1_init := goodIn_r _ [13, 14, 15, 16, 17, 18, 19, 20, 21, 22, 23, 24, 25, 26, 27, 28, 29, 30, 5, 31, 32, 33, 34, 35, 36, 37, 38, 39, 40, 57, 58, 59, 60, 61, 62, 63, 64, 65] (by decide +kernel) (by decide +kernel)
set_option maxRecDepth 20000 in
theorem gX3_dump_X1_init : GoodIn wsX3_dump (wsX1_init) := ggX3_dump_X1_init
set_option maxRecDepth 20000 in
theorem ggX3_dump_X1_takeOver : GoodIn wsX3_dump wsX1_takeOver := goodIn_r _ [44, 20, 45, 46, 47, 48, 22, 23, 24, 25, 26, 27, 57, 58, 59, 60, 61, 62, 63, 64, 65] (by decide +kernel) (by decide +kernel)
set_option maxRecDepth 20000 in
theorem gX3_dump_X1_takeOver : GoodIn wsX3_dump (wsV RX3 134 RX1 yX1_takeOver wsX1_takeOver) := goodIn_app (goodIn_of _ (by decide +kernel)) ggX3_dump_X1_takeOver
theorem dX3_dump_0 : decode cX3_dump 0 = .ok (.aload_n 0, 1) := by decide +kernel
theorem dX3_dump_1 : decode cX3_dump 1 = .ok (.getfield 50, 3) := by decide +kernel
theorem dX3_dump_4 : decode cX3_dump 4 = .ok (.ifCond .eq 6, 3) := by decide +kernel
theorem dX3_dump_7 : decode cX3_dump 7 = .ok (.bipush (-5), 2) := by decide +kernel
theorem dX3_dump_9 : decode cX3_dump 9 = .ok (.ireturn, 1) := by decide +kernel
theorem dX3_dump_10 : decode cX3_dump 10 = .ok (.aload_n 0, 1) := by decide +kernel
theorem dX3_dump_11 : decode cX3_dump 11 = .ok (.getfield 33, 3) := by decide +kernel
theorem dX3_dump_14 : decode cX3_dump 14 = .ok (.iconst 5, 1) := by decide +kernel
theorem dX3_dump_15 : decode cX3_dump 15 = .ok (.if_icmp .lt 5, 3) := by decide +kernel
theorem dX3_dump_18 : decode cX3_dump 18 = .ok (.iconst (-1), 1) := by decide +kernel
theorem dX3_dump_19 : decode cX3_dump 19 = .ok (.ireturn, 1) := by decide +kernel
theorem dX3_dump_20 : decode cX3_dump 20 = .ok (.new 20, 3) := by decide +kernel
theorem dX3_dump_23 : decode cX3_dump 23 = .ok (.dup, 1) := by decide +kernel
theorem dX3_dump_24 : decode cX3_dump 24 = .ok (.aload_n 0, 1) := by decide +kernel
theorem dX3_dump_25 : decode cX3_dump 25 = .ok (.getfield 13, 3) := by decide +kernel
theorem dX3_dump_28 : decode cX3_dump 28 = .ok (.aload_n 0, 1) := by decide +kernel
theorem dX3_dump_29 : decode cX3_dump 29 = .ok (.getfield 17, 3) := by decide +kernel
theorem dX3_dump_32 : decode cX3_dump 32 = .ok (.invokespecial 22, 3) := by decide +kernel
theorem dX3_dump_35 : decode cX3_dump 35 = .ok (.astore_n 2, 1) := by decide +kernel
theorem dX3_dump_36 : decode cX3_dump 36 = .ok (.aload_n 2, 1) := by decide +kernel
theorem dX3_dump_37 : decode cX3_dump 37 = .ok (.aload_n 0, 1) := by decide +kernel
theorem dX3_dump_38 : decode cX3_dump 38 = .ok (.getfield 25, 3) := by decide +kernel
theorem dX3_dump_41 : decode cX3_dump 41 = .ok (.invokevirtual 134, 3) := by decide +kernel
theorem dX3_dump_44 : decode cX3_dump 44 = .ok (.aload_n 2, 1) := by decide +kernel
theorem dX3_dump_45 : decode cX3_dump 45 = .ok (.iload_n 1, 1) := by decide +kernel
theorem dX3_dump_46 : decode cX3_dump 46 = .ok (.putfield 138, 3) := by decide +kernel
theorem dX3_dump_49 : decode cX3_dump 49 = .ok (.aload_n 0, 1) := by decide +kernel
theorem dX3_dump_50 : decode cX3_dump 50 = .ok (.getfield 29, 3) := by decide +kernel
theorem dX3_dump_53 : decode cX3_dump 53 = .ok (.aload_n 0, 1) := by decide +kernel
theorem dX3_dump_54 : decode cX3_dump 54 = .ok (.getfield 33, 3) := by decide +kernel
theorem dX3_dump_57 : decode cX3_dump 57 = .ok (.aload_n 2, 1) := by decide +kernel
theorem dX3_dump_58 : decode cX3_dump 58 = .ok (.aastore, 1) := by decide +kernel
theorem dX3_dump_59 : decode cX3_dump 59 = .ok (.aload_n 0, 1) := by decide +kernel
theorem dX3_dump_60 : decode cX3_dump 60 = .ok (.dup, 1) := by decide +kernel
theorem dX3_dump_61 : decode cX3_dump 61 = .ok (.getfield 33, 3) := by decide +kernel
theorem dX3_dump_64 : decode cX3_dump 64 = .ok (.iconst 1, 1) := by decide +kernel
theorem dX3_dump_65 : decode cX3_dump 65 = .ok (.iadd, 1) := by decide +kernel
theorem dX3_dump_66 : decode cX3_dump 66 = .ok (.putfield 33, 3) := by decide +kernel
theorem dX3_dump_69 : decode cX3_dump 69 = .ok (.aload_n 0, 1) := by decide +kernel
theorem dX3_dump_70 : decode cX3_dump 70 = .ok (.getfield 33, 3) := by decide +kernel
theorem dX3_dump_73 : decode cX3_dump 73 = .ok (.ireturn, 1) := by decide +kernel
set_option maxRecDepth 20000 in
theorem ggX3_restore_X3_dumpOf : GoodIn wsX3_restore wsX3_dumpOf := goodIn_r _ [9, 10, 11, 34, 35, 36, 37, 38, 39, 40, 41] (by decide +kernel) (by decide +kernel)
set_option maxRecDepth 20000 in
theorem gX3_restore_X3_dumpOf : GoodIn wsX3_restore (wsV RX3 141 RX3 yX3_dumpOf wsX3_dumpOf) := goodIn_app (goodIn_of _ (by decide +kernel)) ggX3_restore_X3_dumpOf
set_option maxRecDepth 20000 in
theorem ggX3_restore_X1_takeOver : GoodIn wsX3_restore wsX1_takeOver := goodIn_r _ [16, 17, 18, 19, 20, 21, 22, 23, 24, 25, 26, 27, 42, 43, 44, 45, 46, 47, 48, 49, 50] (by decide +kernel) (by decide +kernel)
set_option maxRecDepth 20000 in
theorem gX3_restore_X1_takeOver : GoodIn wsX3_restore (wsV RX3 134 RX1 yX1_takeOver wsX1_takeOver) := goodIn_app (goodIn_of _ (by decide +kernel)) ggX3_restore_X1_takeOver
set_option maxRecDepth 20000 in
theorem ggX3_restore_X2_drop : GoodIn wsX3_restore wsX2_drop := goodIn_r _ [32, 33, 51, 52, 53, 54] (by decide +kernel) (by decide +kernel)
set_option maxRecDepth 20000 in
theorem gX3_restore_X2_drop : GoodIn wsX3_restore (wsV RX3 88 RX2 yX2_drop wsX2_drop) := goodIn_app (goodIn_of _ (by decide +kernel)) ggX3_restore_X2_drop
theorem dX3_restore_0 : decode cX3_restore 0 = .ok (.aload_n 0, 1) := by decide +kernel
theorem dX3_restore_1 : decode cX3_restore 1 = .ok (.iload_n 1, 1) := by decide +kernel
theorem dX3_restore_2 : decode cX3_restore 2 = .ok (.invokevirtual 141, 3) := by decide +kernel
theorem dX3_restore_5 : decode cX3_restore 5 = .ok (.astore_n 3, 1) := by decide +kernel
theorem dX3_restore_6 : decode cX3_restore 6 = .ok (.aload_n 3, 1) := by decide +kernel
theorem dX3_restore_7 : decode cX3_restore 7 = .ok (.ifnonnull 6, 3) := by decide +kernel
theorem dX3_restore_10 : decode cX3_restore 10 = .ok (.bipush (-2), 2) := by decide +kernel
theorem dX3_restore_12 : decode cX3_restore 12 = .ok (.ireturn, 1) := by decide +kernel
theorem dX3_restore_13 : decode cX3_restore 13 = .ok (.aload_n 0, 1) := by decide +kernel
theorem dX3_restore_14 : decode cX3_restore 14 = .ok (.getfield 50, 3) := by decide +kernel
theorem dX3_restore_17 : decode cX3_restore 17 = .ok (.ifCond .eq 6, 3) := by decide +kernel
theorem dX3_restore_20 : decode cX3_restore 20 = .ok (.bipush (-5), 2) := by decide +kernel
theorem dX3_restore_22 : decode cX3_restore 22 = .ok (.ireturn, 1) := by decide +kernel
theorem dX3_restore_23 : decode cX3_restore 23 = .ok (.aload_n 3, 1) := by decide +kernel
theorem dX3_restore_24 : decode cX3_restore 24 = .ok (.getfield 138, 3) := by decide +kernel
theorem dX3_restore_27 : decode cX3_restore 27 = .ok (.iload_n 2, 1) := by decide +kernel
theorem dX3_restore_28 : decode cX3_restore 28 = .ok (.if_icmp .eq 5, 3) := by decide +kernel
theorem dX3_restore_31 : decode cX3_restore 31 = .ok (.iconst 0, 1) := by decide +kernel
theorem dX3_restore_32 : decode cX3_restore 32 = .ok (.ireturn, 1) := by decide +kernel
theorem dX3_restore_33 : decode cX3_restore 33 = .ok (.aload_n 0, 1) := by decide +kernel
theorem dX3_restore_34 : decode cX3_restore 34 = .ok (.getfield 25, 3) := by decide +kernel
theorem dX3_restore_37 : decode cX3_restore 37 = .ok (.aload_n 3, 1) := by decide +kernel
theorem dX3_restore_38 : decode cX3_restore 38 = .ok (.invokevirtual 134, 3) := by decide +kernel
theorem dX3_restore_41 : decode cX3_restore 41 = .ok (.aload_n 0, 1) := by decide +kernel
theorem dX3_restore_42 : decode cX3_restore 42 = .ok (.getfield 39, 3) := by decide +kernel
theorem dX3_restore_45 : decode cX3_restore 45 = .ok (.invokevirtual 88, 3) := by decide +kernel
theorem dX3_restore_48 : decode cX3_restore 48 = .ok (.iconst 1, 1) := by decide +kernel
theorem dX3_restore_49 : decode cX3_restore 49 = .ok (.ireturn, 1) := by decide +kernel
set_option maxRecDepth 20000 in
theorem ggX3_tape_X0_record : GoodIn wsX3_tape wsX0_record := goodIn_r _ [8, 9, 10, 11, 20, 21, 22] (by decide +kernel) (by decide +kernel)
set_option maxRecDepth 20000 in
theorem gX3_tape_X0_record : GoodIn wsX3_tape (wsV RX3 148 RX0 yX0_record wsX0_record) := goodIn_app (goodIn_of _ (by decide +kernel)) ggX3_tape_X0_record
theorem dX3_tape_0 : decode cX3_tape 0 = .ok (.iload_n 1, 1) := by decide +kernel
theorem dX3_tape_1 : decode cX3_tape 1 = .ok (.ifCond .ge 14, 3) := by decide +kernel
theorem dX3_tape_4 : decode cX3_tape 4 = .ok (.aload_n 0, 1) := by decide +kernel
theorem dX3_tape_5 : decode cX3_tape 5 = .ok (.getfield 46, 3) := by decide +kernel
theorem dX3_tape_8 : decode cX3_tape 8 = .ok (.iconst 0, 1) := by decide +kernel
theorem dX3_tape_9 : decode cX3_tape 9 = .ok (.putfield 145, 3) := by decide +kernel
theorem dX3_tape_12 : decode cX3_tape 12 = .ok (.goto 11, 3) := by decide +kernel
theorem dX3_tape_15 : decode cX3_tape 15 = .ok (.aload_n 0, 1) := by decide +kernel
theorem dX3_tape_16 : decode cX3_tape 16 = .ok (.getfield 46, 3) := by decide +kernel
theorem dX3_tape_19 : decode cX3_tape 19 = .ok (.iload_n 1, 1) := by decide +kernel
theorem dX3_tape_20 : decode cX3_tape 20 = .ok (.invokevirtual 148, 3) := by decide +kernel
theorem dX3_tape_23 : decode cX3_tape 23 = .ok (.aload_n 0, 1) := by decide +kernel
theorem dX3_tape_24 : decode cX3_tape 24 = .ok (.getfield 46, 3) := by decide +kernel
theorem dX3_tape_27 : decode cX3_tape 27 = .ok (.getfield 151, 3) := by decide +kernel
theorem dX3_tape_30 : decode cX3_tape 30 = .ok (.ireturn, 1) := by decide +kernel
set_option maxRecDepth 20000 in
theorem ggX3_next_X0_pass : GoodIn wsX3_next wsX0_pass := goodIn_r _ [6, 7, 8, 9, 18, 19, 20] (by decide +kernel) (by decide +kernel)
set_option maxRecDepth 20000 in
theorem gX3_next_X0_pass : GoodIn wsX3_next (wsV RX3 152 RX0 yX0_pass wsX0_pass) := goodIn_app (goodIn_of _ (by decide +kernel)) ggX3_next_X0_pass
theorem dX3_next_0 : decode cX3_next 0 = .ok (.aload_n 0, 1) := by decide +kernel
theorem dX3_next_1 : decode cX3_next 1 = .ok (.getfield 46, 3) := by decide +kernel
theorem dX3_next_4 : decode cX3_next 4 = .ok (.invokevirtual 152, 3) := by decide +kernel
theorem dX3_next_7 : decode cX3_next 7 = .ok (.ireturn, 1) := by decide +kernel
set_option maxRecDepth 20000 in
theorem ggX3_count_X3_differingFromLatestDump : GoodIn wsX3_count wsX3_differingFromLatestDump := goodIn_r _ [13, 6, 7, 14, 15, 16, 12, 17, 18, 19, 20, 21, 22, 23, 24, 25, 26, 27, 28, 29, 30, 31, 32, 33, 34, 35, 36, 37, 42, 43, 44, 45, 46, 47, 48, 49, 50] (by decide +kernel) (by decide +kernel)
set_option maxRecDepth 20000 in
theorem gX3_count_X3_differingFromLatestDump : GoodIn wsX3_count (wsV RX3 155 RX3 yX3_differingFromLatestDump wsX3_differingFromLatestDump) := goodIn_app (goodIn_of _ (by decide +kernel)) ggX3_count_X3_differingFromLatestDump
theorem dX3_count_0 : decode cX3_count 0 = .ok (.iload_n 1, 1) := by decide +kernel
theorem dX3_count_1 : decode cX3_count 1 = .ok (.tableswitch 92 0 6 #[43, 48, 53, 61, 74, 79, 87], 43) := by decide +kernel
theorem dX3_count_44 : decode cX3_count 44 = .ok (.aload_n 0, 1) := by decide +kernel
theorem dX3_count_45 : decode cX3_count 45 = .ok (.getfield 13, 3) := by decide +kernel
theorem dX3_count_48 : decode cX3_count 48 = .ok (.ireturn, 1) := by decide +kernel
theorem dX3_count_49 : decode cX3_count 49 = .ok (.aload_n 0, 1) := by decide +kernel
theorem dX3_count_50 : decode cX3_count 50 = .ok (.getfield 17, 3) := by decide +kernel
theorem dX3_count_53 : decode cX3_count 53 = .ok (.ireturn, 1) := by decide +kernel
theorem dX3_count_54 : decode cX3_count 54 = .ok (.aload_n 0, 1) := by decide +kernel
theorem dX3_count_55 : decode cX3_count 55 = .ok (.getfield 39, 3) := by decide +kernel
theorem dX3_count_58 : decode cX3_count 58 = .ok (.getfield 58, 3) := by decide +kernel
theorem dX3_count_61 : decode cX3_count 61 = .ok (.ireturn, 1) := by decide +kernel
theorem dX3_count_62 : decode cX3_count 62 = .ok (.aload_n 0, 1) := by decide +kernel
theorem dX3_count_63 : decode cX3_count 63 = .ok (.getfield 50, 3) := by decide +kernel
theorem dX3_count_66 : decode cX3_count 66 = .ok (.ifCond .eq 7, 3) := by decide +kernel
theorem dX3_count_69 : decode cX3_count 69 = .ok (.iconst 1, 1) := by decide +kernel
theorem dX3_count_70 : decode cX3_count 70 = .ok (.goto 4, 3) := by decide +kernel
theorem dX3_count_73 : decode cX3_count 73 = .ok (.iconst 0, 1) := by decide +kernel
theorem dX3_count_74 : decode cX3_count 74 = .ok (.ireturn, 1) := by decide +kernel
theorem dX3_count_75 : decode cX3_count 75 = .ok (.aload_n 0, 1) := by decide +kernel
theorem dX3_count_76 : decode cX3_count 76 = .ok (.getfield 33, 3) := by decide +kernel
theorem dX3_count_79 : decode cX3_count 79 = .ok (.ireturn, 1) := by decide +kernel
theorem dX3_count_80 : decode cX3_count 80 = .ok (.aload_n 0, 1) := by decide +kernel
theorem dX3_count_81 : decode cX3_count 81 = .ok (.getfield 25, 3) := by decide +kernel
theorem dX3_count_84 : decode cX3_count 84 = .ok (.getfield 127, 3) := by decide +kernel
theorem dX3_count_87 : decode cX3_count 87 = .ok (.ireturn, 1) := by decide +kernel
theorem dX3_count_88 : decode cX3_count 88 = .ok (.aload_n 0, 1) := by decide +kernel
theorem dX3_count_89 : decode cX3_count 89 = .ok (.invokevirtual 155, 3) := by decide +kernel
theorem dX3_count_92 : decode cX3_count 92 = .ok (.ireturn, 1) := by decide +kernel
theorem dX3_count_93 : decode cX3_count 93 = .ok (.iconst (-1), 1) := by decide +kernel
theorem dX3_count_94 : decode cX3_count 94 = .ok (.ireturn, 1) := by decide +kernel
theorem dX3_held_0 : decode cX3_held 0 = .ok (.iload_n 1, 1) := by decide +kernel
theorem dX3_held_1 : decode cX3_held 1 = .ok (.iload_n 2, 1) := by decide +kernel
theorem dX3_held_2 : decode cX3_held 2 = .ok (.iload_n 0, 1) := by decide +kernel
theorem dX3_held_3 : decode cX3_held 3 = .ok (.invokestatic 158, 3) := by decide +kernel
theorem dX3_held_6 : decode cX3_held 6 = .ok (.invokestatic 163, 3) := by decide +kernel
theorem dX3_held_9 : decode cX3_held 9 = .ok (.ireturn, 1) := by decide +kernel
theorem dX3_isByteNumber_0 : decode cX3_isByteNumber 0 = .ok (.iload_n 0, 1) := by decide +kernel
theorem dX3_isByteNumber_1 : decode cX3_isByteNumber 1 = .ok (.ifCond .lt 13, 3) := by decide +kernel
theorem dX3_isByteNumber_4 : decode cX3_isByteNumber 4 = .ok (.iload_n 0, 1) := by decide +kernel
theorem dX3_isByteNumber_5 : decode cX3_isByteNumber 5 = .ok (.bipush 16, 2) := by decide +kernel
theorem dX3_isByteNumber_7 : decode cX3_isByteNumber 7 = .ok (.if_icmp .ge 7, 3) := by decide +kernel
theorem dX3_isByteNumber_10 : decode cX3_isByteNumber 10 = .ok (.iconst 1, 1) := by decide +kernel
theorem dX3_isByteNumber_11 : decode cX3_isByteNumber 11 = .ok (.goto 4, 3) := by decide +kernel
theorem dX3_isByteNumber_14 : decode cX3_isByteNumber 14 = .ok (.iconst 0, 1) := by decide +kernel
theorem dX3_isByteNumber_15 : decode cX3_isByteNumber 15 = .ok (.ireturn, 1) := by decide +kernel
theorem dX3_hasTrack_0 : decode cX3_hasTrack 0 = .ok (.iload_n 1, 1) := by decide +kernel
theorem dX3_hasTrack_1 : decode cX3_hasTrack 1 = .ok (.ifCond .lt 15, 3) := by decide +kernel
theorem dX3_hasTrack_4 : decode cX3_hasTrack 4 = .ok (.iload_n 1, 1) := by decide +kernel
theorem dX3_hasTrack_5 : decode cX3_hasTrack 5 = .ok (.aload_n 0, 1) := by decide +kernel
theorem dX3_hasTrack_6 : decode cX3_hasTrack 6 = .ok (.getfield 13, 3) := by decide +kernel
theorem dX3_hasTrack_9 : decode cX3_hasTrack 9 = .ok (.if_icmp .ge 7, 3) := by decide +kernel
theorem dX3_hasTrack_12 : decode cX3_hasTrack 12 = .ok (.iconst 1, 1) := by decide +kernel
theorem dX3_hasTrack_13 : decode cX3_hasTrack 13 = .ok (.goto 4, 3) := by decide +kernel
theorem dX3_hasTrack_16 : decode cX3_hasTrack 16 = .ok (.iconst 0, 1) := by decide +kernel
theorem dX3_hasTrack_17 : decode cX3_hasTrack 17 = .ok (.ireturn, 1) := by decide +kernel
set_option maxRecDepth 20000 in
theorem ggX3_hasSector_X3_hasTrack : GoodIn wsX3_hasSector wsX3_hasTrack := goodIn_r _ [6, 7, 8, 9, 10, 11, 12, 13, 14, 15] (by decide +kernel) (by decide +kernel)
set_option maxRecDepth 20000 in
theorem gX3_hasSector_X3_hasTrack : GoodIn wsX3_hasSector (wsV RX3 109 RX3 yX3_hasTrack wsX3_hasTrack) := goodIn_app (goodIn_of _ (by decide +kernel)) ggX3_hasSector_X3_hasTrack
theorem dX3_hasSector_0 : decode cX3_hasSector 0 = .ok (.aload_n 0, 1) := by decide +kernel
theorem dX3_hasSector_1 : decode cX3_hasSector 1 = .ok (.iload_n 1, 1) := by decide +kernel
theorem dX3_hasSector_2 : decode cX3_hasSector 2 = .ok (.invokevirtual 109, 3) := by decide +kernel
theorem dX3_hasSector_5 : decode cX3_hasSector 5 = .ok (.ifCond .eq 19, 3) := by decide +kernel
theorem dX3_hasSector_8 : decode cX3_hasSector 8 = .ok (.iload_n 2, 1) := by decide +kernel
theorem dX3_hasSector_9 : decode cX3_hasSector 9 = .ok (.ifCond .lt 15, 3) := by decide +kernel
theorem dX3_hasSector_12 : decode cX3_hasSector 12 = .ok (.iload_n 2, 1) := by decide +kernel
theorem dX3_hasSector_13 : decode cX3_hasSector 13 = .ok (.aload_n 0, 1) := by decide +kernel
theorem dX3_hasSector_14 : decode cX3_hasSector 14 = .ok (.getfield 17, 3) := by decide +kernel
theorem dX3_hasSector_17 : decode cX3_hasSector 17 = .ok (.if_icmp .ge 7, 3) := by decide +kernel
theorem dX3_hasSector_20 : decode cX3_hasSector 20 = .ok (.iconst 1, 1) := by decide +kernel
theorem dX3_hasSector_21 : decode cX3_hasSector 21 = .ok (.goto 4, 3) := by decide +kernel
theorem dX3_hasSector_24 : decode cX3_hasSector 24 = .ok (.iconst 0, 1) := by decide +kernel
theorem dX3_hasSector_25 : decode cX3_hasSector 25 = .ok (.ireturn, 1) := by decide +kernel
set_option maxRecDepth 20000 in
theorem ggX3_layFirst_X1_lay : GoodIn wsX3_layFirst wsX1_lay := goodIn_r _ [10, 11, 12, 13, 14, 15, 16, 17, 9, 18, 19, 20, 21, 22, 23, 24, 25, 26, 27, 28, 29, 30, 31, 32, 33, 46, 47, 48, 49, 50, 51, 52, 53, 54] (by decide +kernel) (by decide +kernel)
set_option maxRecDepth 20000 in
theorem gX3_layFirst_X1_lay : GoodIn wsX3_layFirst (wsV RX3 166 RX1 yX1_lay wsX1_lay) := goodIn_app (goodIn_of _ (by decide +kernel)) ggX3_layFirst_X1_lay
theorem dX3_layFirst_0 : decode cX3_layFirst 0 = .ok (.iconst 0, 1) := by decide +kernel
theorem dX3_layFirst_1 : decode cX3_layFirst 1 = .ok (.istore_n 2, 1) := by decide +kernel
theorem dX3_layFirst_2 : decode cX3_layFirst 2 = .ok (.iload_n 2, 1) := by decide +kernel
theorem dX3_layFirst_3 : decode cX3_layFirst 3 = .ok (.iload_n 1, 1) := by decide +kernel
theorem dX3_layFirst_4 : decode cX3_layFirst 4 = .ok (.if_icmp .ge 43, 3) := by decide +kernel
theorem dX3_layFirst_7 : decode cX3_layFirst 7 = .ok (.aload_n 0, 1) := by decide +kernel
theorem dX3_layFirst_8 : decode cX3_layFirst 8 = .ok (.getfield 25, 3) := by decide +kernel
theorem dX3_layFirst_11 : decode cX3_layFirst 11 = .ok (.aload_n 0, 1) := by decide +kernel
theorem dX3_layFirst_12 : decode cX3_layFirst 12 = .ok (.getfield 39, 3) := by decide +kernel
theorem dX3_layFirst_15 : decode cX3_layFirst 15 = .ok (.getfield 91, 3) := by decide +kernel
theorem dX3_layFirst_18 : decode cX3_layFirst 18 = .ok (.iload_n 2, 1) := by decide +kernel
theorem dX3_layFirst_19 : decode cX3_layFirst 19 = .ok (.iaload, 1) := by decide +kernel
theorem dX3_layFirst_20 : decode cX3_layFirst 20 = .ok (.aload_n 0, 1) := by decide +kernel
theorem dX3_layFirst_21 : decode cX3_layFirst 21 = .ok (.getfield 39, 3) := by decide +kernel
theorem dX3_layFirst_24 : decode cX3_layFirst 24 = .ok (.getfield 95, 3) := by decide +kernel
theorem dX3_layFirst_27 : decode cX3_layFirst 27 = .ok (.iload_n 2, 1) := by decide +kernel
theorem dX3_layFirst_28 : decode cX3_layFirst 28 = .ok (.iaload, 1) := by decide +kernel
theorem dX3_layFirst_29 : decode cX3_layFirst 29 = .ok (.aload_n 0, 1) := by decide +kernel
theorem dX3_layFirst_30 : decode cX3_layFirst 30 = .ok (.getfield 39, 3) := by decide +kernel
theorem dX3_layFirst_33 : decode cX3_layFirst 33 = .ok (.getfield 98, 3) := by decide +kernel
theorem dX3_layFirst_36 : decode cX3_layFirst 36 = .ok (.iload_n 2, 1) := by decide +kernel
theorem dX3_layFirst_37 : decode cX3_layFirst 37 = .ok (.baload, 1) := by decide +kernel
theorem dX3_layFirst_38 : decode cX3_layFirst 38 = .ok (.invokevirtual 166, 3) := by decide +kernel
theorem dX3_layFirst_41 : decode cX3_layFirst 41 = .ok (.iinc 2 1, 3) := by decide +kernel
theorem dX3_layFirst_44 : decode cX3_layFirst 44 = .ok (.goto (-42), 3) := by decide +kernel
theorem dX3_layFirst_47 : decode cX3_layFirst 47 = .ok (.return_, 1) := by decide +kernel
theorem dX3_dumpOf_0 : decode cX3_dumpOf 0 = .ok (.iload_n 1, 1) := by decide +kernel
theorem dX3_dumpOf_1 : decode cX3_dumpOf 1 = .ok (.iconst 1, 1) := by decide +kernel
theorem dX3_dumpOf_2 : decode cX3_dumpOf 2 = .ok (.if_icmp .lt 22, 3) := by decide +kernel
theorem dX3_dumpOf_5 : decode cX3_dumpOf 5 = .ok (.iload_n 1, 1) := by decide +kernel
theorem dX3_dumpOf_6 : decode cX3_dumpOf 6 = .ok (.aload_n 0, 1) := by decide +kernel
theorem dX3_dumpOf_7 : decode cX3_dumpOf 7 = .ok (.getfield 33, 3) := by decide +kernel
theorem dX3_dumpOf_10 : decode cX3_dumpOf 10 = .ok (.if_icmp .gt 14, 3) := by decide +kernel
theorem dX3_dumpOf_13 : decode cX3_dumpOf 13 = .ok (.aload_n 0, 1) := by decide +kernel
theorem dX3_dumpOf_14 : decode cX3_dumpOf 14 = .ok (.getfield 29, 3) := by decide +kernel
theorem dX3_dumpOf_17 : decode cX3_dumpOf 17 = .ok (.iload_n 1, 1) := by decide +kernel
theorem dX3_dumpOf_18 : decode cX3_dumpOf 18 = .ok (.iconst 1, 1) := by decide +kernel
theorem dX3_dumpOf_19 : decode cX3_dumpOf 19 = .ok (.isub, 1) := by decide +kernel
theorem dX3_dumpOf_20 : decode cX3_dumpOf 20 = .ok (.aaload, 1) := by decide +kernel
theorem dX3_dumpOf_21 : decode cX3_dumpOf 21 = .ok (.goto 4, 3) := by decide +kernel
theorem dX3_dumpOf_24 : decode cX3_dumpOf 24 = .ok (.aconst_null, 1) := by decide +kernel
theorem dX3_dumpOf_25 : decode cX3_dumpOf 25 = .ok (.areturn, 1) := by decide +kernel
set_option maxRecDepth 20000 in
theorem ggX3_differingFromLatestDump_X3_dumpOf : GoodIn wsX3_differingFromLatestDump wsX3_dumpOf := goodIn_r _ [7, 1, 8, 20, 21, 22, 23, 24, 25, 26, 27] (by decide +kernel) (by decide +kernel)
set_option maxRecDepth 20000 in
theorem gX3_differingFromLatestDump_X3_dumpOf : GoodIn wsX3_differingFromLatestDump (wsV RX3 141 RX3 yX3_dumpOf wsX3_dumpOf) := goodIn_app (goodIn_of _ (by decide +kernel)) ggX3_differingFromLatestDump_X3_dumpOf
set_option maxRecDepth 20000 in
theorem ggX3_differingFromLatestDump_X1_differingSectors : GoodIn wsX3_differingFromLatestDump wsX1_differingSectors := goodIn_r _ [13, 14, 15, 16, 17, 12, 18, 19, 28, 29, 30, 31, 32, 33, 34, 35, 36] (by decide +kernel) (by decide +kernel)
set_option maxRecDepth 20000 in
theorem gX3_differingFromLatestDump_X1_differingSectors : GoodIn wsX3_differingFromLatestDump (wsV RX3 169 RX1 yX1_differingSectors wsX1_differingSectors) := goodIn_app (goodIn_of _ (by decide +kernel)) ggX3_differingFromLatestDump_X1_differingSectors
theorem dX3_differingFromLatestDump_0 : decode cX3_differingFromLatestDump 0 = .ok (.aload_n 0, 1) := by decide +kernel
theorem dX3_differingFromLatestDump_1 : decode cX3_differingFromLatestDump 1 = .ok (.aload_n 0, 1) := by decide +kernel
theorem dX3_differingFromLatestDump_2 : decode cX3_differingFromLatestDump 2 = .ok (.getfield 33, 3) := by decide +kernel
theorem dX3_differingFromLatestDump_5 : decode cX3_differingFromLatestDump 5 = .ok (.invokevirtual 141, 3) := by decide +kernel
theorem dX3_differingFromLatestDump_8 : decode cX3_differingFromLatestDump 8 = .ok (.astore_n 1, 1) := by decide +kernel
theorem dX3_differingFromLatestDump_9 : decode cX3_differingFromLatestDump 9 = .ok (.aload_n 1, 1) := by decide +kernel
theorem dX3_differingFromLatestDump_10 : decode cX3_differingFromLatestDump 10 = .ok (.ifnonnull 7, 3) := by decide +kernel
theorem dX3_differingFromLatestDump_13 : decode cX3_differingFromLatestDump 13 = .ok (.iconst (-1), 1) := by decide +kernel
theorem dX3_differingFromLatestDump_14 : decode cX3_differingFromLatestDump 14 = .ok (.goto 11, 3) := by decide +kernel
theorem dX3_differingFromLatestDump_17 : decode cX3_differingFromLatestDump 17 = .ok (.aload_n 0, 1) := by decide +kernel
theorem dX3_differingFromLatestDump_18 : decode cX3_differingFromLatestDump 18 = .ok (.getfield 25, 3) := by decide +kernel
theorem dX3_differingFromLatestDump_21 : decode cX3_differingFromLatestDump 21 = .ok (.aload_n 1, 1) := by decide +kernel
theorem dX3_differingFromLatestDump_22 : decode cX3_differingFromLatestDump 22 = .ok (.invokevirtual 169, 3) := by decide +kernel
theorem dX3_differingFromLatestDump_25 : decode cX3_differingFromLatestDump 25 = .ok (.ireturn, 1) := by decide +kernel
set_option maxRecDepth 20000 in
theorem ggX4_init_X4_sumOf : GoodIn wsX4_init wsX4_sumOf := goodIn_r _ [25, 5, 26, 27, 28, 29, 30, 31, 32, 33, 34, 35, 36, 37, 38, 39, 40, 41, 42, 43, 44, 45, 46, 47] (by decide +kernel) (by decide +kernel)
set_option maxRecDepth 20000 in
theorem gX4_init_X4_sumOf : GoodIn wsX4_init (wsV RX4 57 RX4 yX4_sumOf wsX4_sumOf) := goodIn_app (goodIn_of _ (by decide +kernel)) ggX4_init_X4_sumOf
