theorem dX0_init_0 : decode cX0_init 0 = .ok (.aload_n 0, 1) := by decide +kernel
theorem dX0_init_1 : decode cX0_init 1 = .ok (.invokespecial 3, 3) := by decide +kernel
theorem dX0_init_4 : decode cX0_init 4 = .ok (.aload_n 0, 1) := by decide +kernel
theorem dX0_init_5 : decode cX0_init 5 = .ok (.aconst_null, 1) := by decide +kernel
theorem dX0_init_6 : decode cX0_init 6 = .ok (.putfield 9, 3) := by decide +kernel
theorem dX0_init_9 : decode cX0_init 9 = .ok (.aload_n 0, 1) := by decide +kernel
theorem dX0_init_10 : decode cX0_init 10 = .ok (.iconst 4, 1) := by decide +kernel
theorem dX0_init_11 : decode cX0_init 11 = .ok (.newarray .int, 2) := by decide +kernel
theorem dX0_init_13 : decode cX0_init 13 = .ok (.putfield 15, 3) := by decide +kernel
theorem dX0_init_16 : decode cX0_init 16 = .ok (.aload_n 0, 1) := by decide +kernel
theorem dX0_init_17 : decode cX0_init 17 = .ok (.iconst 4, 1) := by decide +kernel
theorem dX0_init_18 : decode cX0_init 18 = .ok (.newarray .boolean, 2) := by decide +kernel
theorem dX0_init_20 : decode cX0_init 20 = .ok (.putfield 19, 3) := by decide +kernel
theorem dX0_init_23 : decode cX0_init 23 = .ok (.aload_n 0, 1) := by decide +kernel
theorem dX0_init_24 : decode cX0_init 24 = .ok (.iload_n 1, 1) := by decide +kernel
theorem dX0_init_25 : decode cX0_init 25 = .ok (.putfield 23, 3) := by decide +kernel
theorem dX0_init_28 : decode cX0_init 28 = .ok (.aload_n 0, 1) := by decide +kernel
theorem dX0_init_29 : decode cX0_init 29 = .ok (.iload_n 2, 1) := by decide +kernel
theorem dX0_init_30 : decode cX0_init 30 = .ok (.putfield 27, 3) := by decide +kernel
theorem dX0_init_33 : decode cX0_init 33 = .ok (.aload_n 0, 1) := by decide +kernel
theorem dX0_init_34 : decode cX0_init 34 = .ok (.iload_n 3, 1) := by decide +kernel
theorem dX0_init_35 : decode cX0_init 35 = .ok (.putfield 30, 3) := by decide +kernel
theorem dX0_init_38 : decode cX0_init 38 = .ok (.aload_n 0, 1) := by decide +kernel
theorem dX0_init_39 : decode cX0_init 39 = .ok (.iload 4, 2) := by decide +kernel
theorem dX0_init_41 : decode cX0_init 41 = .ok (.putfield 33, 3) := by decide +kernel
theorem dX0_init_44 : decode cX0_init 44 = .ok (.aload_n 0, 1) := by decide +kernel
theorem dX0_init_45 : decode cX0_init 45 = .ok (.aload 5, 2) := by decide +kernel
theorem dX0_init_47 : decode cX0_init 47 = .ok (.putfield 36, 3) := by decide +kernel
theorem dX0_init_50 : decode cX0_init 50 = .ok (.iconst 0, 1) := by decide +kernel
theorem dX0_init_51 : decode cX0_init 51 = .ok (.istore 6, 2) := by decide +kernel
theorem dX0_init_53 : decode cX0_init 53 = .ok (.iload 6, 2) := by decide +kernel
theorem dX0_init_55 : decode cX0_init 55 = .ok (.iconst 4, 1) := by decide +kernel
theorem dX0_init_56 : decode cX0_init 56 = .ok (.if_icmp .ge 27, 3) := by decide +kernel
theorem dX0_init_59 : decode cX0_init 59 = .ok (.aload_n 0, 1) := by decide +kernel
theorem dX0_init_60 : decode cX0_init 60 = .ok (.getfield 15, 3) := by decide +kernel
theorem dX0_init_63 : decode cX0_init 63 = .ok (.iload 6, 2) := by decide +kernel
theorem dX0_init_65 : decode cX0_init 65 = .ok (.iload 6, 2) := by decide +kernel
theorem dX0_init_67 : decode cX0_init 67 = .ok (.iload_n 2, 1) := by decide +kernel
theorem dX0_init_68 : decode cX0_init 68 = .ok (.if_icmp .ne 7, 3) := by decide +kernel
theorem dX0_init_71 : decode cX0_init 71 = .ok (.iconst 0, 1) := by decide +kernel
theorem dX0_init_72 : decode cX0_init 72 = .ok (.goto 4, 3) := by decide +kernel
theorem dX0_init_75 : decode cX0_init 75 = .ok (.iconst (-1), 1) := by decide +kernel
theorem dX0_init_76 : decode cX0_init 76 = .ok (.iastore, 1) := by decide +kernel
theorem dX0_init_77 : decode cX0_init 77 = .ok (.iinc 6 1, 3) := by decide +kernel
theorem dX0_init_80 : decode cX0_init 80 = .ok (.goto (-27), 3) := by decide +kernel
theorem dX0_init_83 : decode cX0_init 83 = .ok (.return_, 1) := by decide +kernel
theorem dX0_isKnownIn_0 : decode cX0_isKnownIn 0 = .ok (.aload_n 0, 1) := by decide +kernel
theorem dX0_isKnownIn_1 : decode cX0_isKnownIn 1 = .ok (.getfield 15, 3) := by decide +kernel
theorem dX0_isKnownIn_4 : decode cX0_isKnownIn 4 = .ok (.iload_n 1, 1) := by decide +kernel
theorem dX0_isKnownIn_5 : decode cX0_isKnownIn 5 = .ok (.iaload, 1) := by decide +kernel
theorem dX0_isKnownIn_6 : decode cX0_isKnownIn 6 = .ok (.iconst (-1), 1) := by decide +kernel
theorem dX0_isKnownIn_7 : decode cX0_isKnownIn 7 = .ok (.if_icmp .eq 7, 3) := by decide +kernel
theorem dX0_isKnownIn_10 : decode cX0_isKnownIn 10 = .ok (.iconst 1, 1) := by decide +kernel
theorem dX0_isKnownIn_11 : decode cX0_isKnownIn 11 = .ok (.goto 4, 3) := by decide +kernel
theorem dX0_isKnownIn_14 : decode cX0_isKnownIn 14 = .ok (.iconst 0, 1) := by decide +kernel
theorem dX0_isKnownIn_15 : decode cX0_isKnownIn 15 = .ok (.ireturn, 1) := by decide +kernel
set_option maxRecDepth 20000 in
theorem ggX0_isRemovedIn_X0_isKnownIn : GoodIn wsX0_isRemovedIn wsX0_isKnownIn := goodIn_r _ [6, 7, 8, 9, 10, 11, 12, 13, 14, 15] (by decide +kernel) (by decide +kernel)
set_option maxRecDepth 20000 in
theorem gX0_isRemovedIn_X0_isKnownIn : GoodIn wsX0_isRemovedIn (wsV RX0 39 RX0 yX0_isKnownIn wsX0_isKnownIn) := goodIn_app (goodIn_of _ (by decide +kernel)) ggX0_isRemovedIn_X0_isKnownIn
theorem dX0_isRemovedIn_0 : decode cX0_isRemovedIn 0 = .ok (.aload_n 0, 1) := by decide +kernel
theorem dX0_isRemovedIn_1 : decode cX0_isRemovedIn 1 = .ok (.iload_n 1, 1) := by decide +kernel
theorem dX0_isRemovedIn_2 : decode cX0_isRemovedIn 2 = .ok (.invokevirtual 39, 3) := by decide +kernel
theorem dX0_isRemovedIn_5 : decode cX0_isRemovedIn 5 = .ok (.ifCond .eq 16, 3) := by decide +kernel
theorem dX0_isRemovedIn_8 : decode cX0_isRemovedIn 8 = .ok (.aload_n 0, 1) := by decide +kernel
theorem dX0_isRemovedIn_9 : decode cX0_isRemovedIn 9 = .ok (.getfield 19, 3) := by decide +kernel
theorem dX0_isRemovedIn_12 : decode cX0_isRemovedIn 12 = .ok (.iload_n 1, 1) := by decide +kernel
theorem dX0_isRemovedIn_13 : decode cX0_isRemovedIn 13 = .ok (.baload, 1) := by decide +kernel
theorem dX0_isRemovedIn_14 : decode cX0_isRemovedIn 14 = .ok (.ifCond .eq 7, 3) := by decide +kernel
theorem dX0_isRemovedIn_17 : decode cX0_isRemovedIn 17 = .ok (.iconst 1, 1) := by decide +kernel
theorem dX0_isRemovedIn_18 : decode cX0_isRemovedIn 18 = .ok (.goto 4, 3) := by decide +kernel
theorem dX0_isRemovedIn_21 : decode cX0_isRemovedIn 21 = .ok (.iconst 0, 1) := by decide +kernel
theorem dX0_isRemovedIn_22 : decode cX0_isRemovedIn 22 = .ok (.ireturn, 1) := by decide +kernel
set_option maxRecDepth 20000 in
theorem ggX0_isInTextOf_X0_isKnownIn : GoodIn wsX0_isInTextOf wsX0_isKnownIn := goodIn_r _ [6, 7, 8, 9, 10, 11, 12, 13, 14, 15] (by decide +kernel) (by decide +kernel)
set_option maxRecDepth 20000 in
theorem gX0_isInTextOf_X0_isKnownIn : GoodIn wsX0_isInTextOf (wsV RX0 39 RX0 yX0_isKnownIn wsX0_isKnownIn) := goodIn_app (goodIn_of _ (by decide +kernel)) ggX0_isInTextOf_X0_isKnownIn
theorem dX0_isInTextOf_0 : decode cX0_isInTextOf 0 = .ok (.aload_n 0, 1) := by decide +kernel
theorem dX0_isInTextOf_1 : decode cX0_isInTextOf 1 = .ok (.iload_n 1, 1) := by decide +kernel
theorem dX0_isInTextOf_2 : decode cX0_isInTextOf 2 = .ok (.invokevirtual 39, 3) := by decide +kernel
theorem dX0_isInTextOf_5 : decode cX0_isInTextOf 5 = .ok (.ifCond .eq 16, 3) := by decide +kernel
theorem dX0_isInTextOf_8 : decode cX0_isInTextOf 8 = .ok (.aload_n 0, 1) := by decide +kernel
theorem dX0_isInTextOf_9 : decode cX0_isInTextOf 9 = .ok (.getfield 19, 3) := by decide +kernel
theorem dX0_isInTextOf_12 : decode cX0_isInTextOf 12 = .ok (.iload_n 1, 1) := by decide +kernel
theorem dX0_isInTextOf_13 : decode cX0_isInTextOf 13 = .ok (.baload, 1) := by decide +kernel
theorem dX0_isInTextOf_14 : decode cX0_isInTextOf 14 = .ok (.ifCond .ne 7, 3) := by decide +kernel
theorem dX0_isInTextOf_17 : decode cX0_isInTextOf 17 = .ok (.iconst 1, 1) := by decide +kernel
theorem dX0_isInTextOf_18 : decode cX0_isInTextOf 18 = .ok (.goto 4, 3) := by decide +kernel
theorem dX0_isInTextOf_21 : decode cX0_isInTextOf 21 = .ok (.iconst 0, 1) := by decide +kernel
theorem dX0_isInTextOf_22 : decode cX0_isInTextOf 22 = .ok (.ireturn, 1) := by decide +kernel
theorem dX0_setRemoved_0 : decode cX0_setRemoved 0 = .ok (.aload_n 0, 1) := by decide +kernel
theorem dX0_setRemoved_1 : decode cX0_setRemoved 1 = .ok (.getfield 19, 3) := by decide +kernel
theorem dX0_setRemoved_4 : decode cX0_setRemoved 4 = .ok (.iload_n 1, 1) := by decide +kernel
theorem dX0_setRemoved_5 : decode cX0_setRemoved 5 = .ok (.iload_n 2, 1) := by decide +kernel
theorem dX0_setRemoved_6 : decode cX0_setRemoved 6 = .ok (.bastore, 1) := by decide +kernel
theorem dX0_setRemoved_7 : decode cX0_setRemoved 7 = .ok (.aload_n 0, 1) := by decide +kernel
theorem dX0_setRemoved_8 : decode cX0_setRemoved 8 = .ok (.getfield 15, 3) := by decide +kernel
theorem dX0_setRemoved_11 : decode cX0_setRemoved 11 = .ok (.iload_n 1, 1) := by decide +kernel
theorem dX0_setRemoved_12 : decode cX0_setRemoved 12 = .ok (.iload_n 3, 1) := by decide +kernel
theorem dX0_setRemoved_13 : decode cX0_setRemoved 13 = .ok (.iastore, 1) := by decide +kernel
theorem dX0_setRemoved_14 : decode cX0_setRemoved 14 = .ok (.return_, 1) := by decide +kernel
set_option maxRecDepth 20000 in
theorem ggX0_bringNewer_X0_setRemoved : GoodIn wsX0_bringNewer wsX0_setRemoved := goodIn_r _ [7, 2, 1, 8, 9, 10, 11, 12, 13, 14, 15] (by decide +kernel) (by decide +kernel)
set_option maxRecDepth 20000 in
theorem gX0_bringNewer_X0_setRemoved : GoodIn wsX0_bringNewer (wsV RX0 43 RX0 yX0_setRemoved wsX0_setRemoved) := goodIn_app (goodIn_of _ (by decide +kernel)) ggX0_bringNewer_X0_setRemoved
theorem dX0_bringNewer_0 : decode cX0_bringNewer 0 = .ok (.aload_n 0, 1) := by decide +kernel
theorem dX0_bringNewer_1 : decode cX0_bringNewer 1 = .ok (.getfield 15, 3) := by decide +kernel
theorem dX0_bringNewer_4 : decode cX0_bringNewer 4 = .ok (.iload_n 2, 1) := by decide +kernel
theorem dX0_bringNewer_5 : decode cX0_bringNewer 5 = .ok (.iaload, 1) := by decide +kernel
theorem dX0_bringNewer_6 : decode cX0_bringNewer 6 = .ok (.aload_n 0, 1) := by decide +kernel
theorem dX0_bringNewer_7 : decode cX0_bringNewer 7 = .ok (.getfield 15, 3) := by decide +kernel
theorem dX0_bringNewer_10 : decode cX0_bringNewer 10 = .ok (.iload_n 1, 1) := by decide +kernel
theorem dX0_bringNewer_11 : decode cX0_bringNewer 11 = .ok (.iaload, 1) := by decide +kernel
theorem dX0_bringNewer_12 : decode cX0_bringNewer 12 = .ok (.if_icmp .le 20, 3) := by decide +kernel
theorem dX0_bringNewer_15 : decode cX0_bringNewer 15 = .ok (.aload_n 0, 1) := by decide +kernel
theorem dX0_bringNewer_16 : decode cX0_bringNewer 16 = .ok (.iload_n 1, 1) := by decide +kernel
theorem dX0_bringNewer_17 : decode cX0_bringNewer 17 = .ok (.aload_n 0, 1) := by decide +kernel
theorem dX0_bringNewer_18 : decode cX0_bringNewer 18 = .ok (.getfield 19, 3) := by decide +kernel
theorem dX0_bringNewer_21 : decode cX0_bringNewer 21 = .ok (.iload_n 2, 1) := by decide +kernel
theorem dX0_bringNewer_22 : decode cX0_bringNewer 22 = .ok (.baload, 1) := by decide +kernel
theorem dX0_bringNewer_23 : decode cX0_bringNewer 23 = .ok (.aload_n 0, 1) := by decide +kernel
theorem dX0_bringNewer_24 : decode cX0_bringNewer 24 = .ok (.getfield 15, 3) := by decide +kernel
theorem dX0_bringNewer_27 : decode cX0_bringNewer 27 = .ok (.iload_n 2, 1) := by decide +kernel
theorem dX0_bringNewer_28 : decode cX0_bringNewer 28 = .ok (.iaload, 1) := by decide +kernel
theorem dX0_bringNewer_29 : decode cX0_bringNewer 29 = .ok (.invokevirtual 43, 3) := by decide +kernel
theorem dX0_bringNewer_32 : decode cX0_bringNewer 32 = .ok (.return_, 1) := by decide +kernel
theorem dX1_init_0 : decode cX1_init 0 = .ok (.aload_n 0, 1) := by decide +kernel
theorem dX1_init_1 : decode cX1_init 1 = .ok (.invokespecial 1, 3) := by decide +kernel
theorem dX1_init_4 : decode cX1_init 4 = .ok (.aload_n 0, 1) := by decide +kernel
theorem dX1_init_5 : decode cX1_init 5 = .ok (.bipush 60, 2) := by decide +kernel
theorem dX1_init_7 : decode cX1_init 7 = .ok (.anewarray 9, 3) := by decide +kernel
theorem dX1_init_10 : decode cX1_init 10 = .ok (.putfield 11, 3) := by decide +kernel
theorem dX1_init_13 : decode cX1_init 13 = .ok (.aload_n 0, 1) := by decide +kernel
theorem dX1_init_14 : decode cX1_init 14 = .ok (.iconst 0, 1) := by decide +kernel
theorem dX1_init_15 : decode cX1_init 15 = .ok (.putfield 15, 3) := by decide +kernel
theorem dX1_init_18 : decode cX1_init 18 = .ok (.aload_n 0, 1) := by decide +kernel
theorem dX1_init_19 : decode cX1_init 19 = .ok (.aconst_null, 1) := by decide +kernel
theorem dX1_init_20 : decode cX1_init 20 = .ok (.putfield 19, 3) := by decide +kernel
theorem dX1_init_23 : decode cX1_init 23 = .ok (.aload_n 0, 1) := by decide +kernel
theorem dX1_init_24 : decode cX1_init 24 = .ok (.iconst 4, 1) := by decide +kernel
theorem dX1_init_25 : decode cX1_init 25 = .ok (.newarray .int, 2) := by decide +kernel
theorem dX1_init_27 : decode cX1_init 27 = .ok (.putfield 23, 3) := by decide +kernel
theorem dX1_init_30 : decode cX1_init 30 = .ok (.aload_n 0, 1) := by decide +kernel
theorem dX1_init_31 : decode cX1_init 31 = .ok (.bipush 20, 2) := by decide +kernel
theorem dX1_init_33 : decode cX1_init 33 = .ok (.iconst 4, 1) := by decide +kernel
theorem dX1_init_34 : decode cX1_init 34 = .ok (.multianewarray 27 2, 4) := by decide +kernel
theorem dX1_init_38 : decode cX1_init 38 = .ok (.putfield 29, 3) := by decide +kernel
theorem dX1_init_41 : decode cX1_init 41 = .ok (.aload_n 0, 1) := by decide +kernel
theorem dX1_init_42 : decode cX1_init 42 = .ok (.iconst 0, 1) := by decide +kernel
theorem dX1_init_43 : decode cX1_init 43 = .ok (.putfield 32, 3) := by decide +kernel
theorem dX1_init_46 : decode cX1_init 46 = .ok (.aload_n 0, 1) := by decide +kernel
theorem dX1_init_47 : decode cX1_init 47 = .ok (.iconst 0, 1) := by decide +kernel
theorem dX1_init_48 : decode cX1_init 48 = .ok (.putfield 35, 3) := by decide +kernel
theorem dX1_init_51 : decode cX1_init 51 = .ok (.aload_n 0, 1) := by decide +kernel
theorem dX1_init_52 : decode cX1_init 52 = .ok (.iconst 4, 1) := by decide +kernel
theorem dX1_init_53 : decode cX1_init 53 = .ok (.newarray .int, 2) := by decide +kernel
theorem dX1_init_55 : decode cX1_init 55 = .ok (.putfield 38, 3) := by decide +kernel
theorem dX1_init_58 : decode cX1_init 58 = .ok (.aload_n 0, 1) := by decide +kernel
theorem dX1_init_59 : decode cX1_init 59 = .ok (.iconst 4, 1) := by decide +kernel
theorem dX1_init_60 : decode cX1_init 60 = .ok (.newarray .long, 2) := by decide +kernel
theorem dX1_init_62 : decode cX1_init 62 = .ok (.putfield 41, 3) := by decide +kernel
theorem dX1_init_65 : decode cX1_init 65 = .ok (.return_, 1) := by decide +kernel
set_option maxRecDepth 20000 in
theorem ggX1_insert_X1_checkAuthor : GoodIn wsX1_insert wsX1_checkAuthor := goodIn_ca (goodIn_r _ [13, 14, 15, 12, 16, 17, 18] (by decide +kernel) (by decide +kernel)) (goodIn_sub (fun _ h => List.mem_cons_of_mem _ (List.mem_append_right _ h)) (by decide +kernel))
set_option maxRecDepth 20000 in
theorem gX1_insert_X1_checkAuthor : GoodIn wsX1_insert (va_wsS RX1 45 yX1_checkAuthor wsX1_checkAuthor) := goodIn_app (goodIn_of _ (by decide +kernel)) ggX1_insert_X1_checkAuthor
set_option maxRecDepth 20000 in
theorem ggX1_insert_X1_checkRange : GoodIn wsX1_insert wsX1_checkRange := goodIn_ca (goodIn_r _ [16, 17, 18] (by decide +kernel) (by decide +kernel)) (goodIn_sub (fun _ h => List.mem_cons_of_mem _ (List.mem_append_right _ h)) (by decide +kernel))
set_option maxRecDepth 20000 in
theorem gX1_insert_X1_checkRange : GoodIn wsX1_insert (va_wsS RX1 49 yX1_checkRange wsX1_checkRange) := goodIn_app (goodIn_of _ (by decide +kernel)) ggX1_insert_X1_checkRange
set_option maxRecDepth 20000 in
theorem ggX1_insert_X1_findAtPlace : GoodIn wsX1_insert wsX1_findAtPlace := goodIn_ca (goodIn_r _ [22, 1, 2, 23, 24, 8, 25, 26, 27, 28, 29, 30, 31, 32, 55, 56, 57, 58, 59, 60, 61, 62, 63, 64, 65, 66, 67, 68, 69, 70, 71] (by decide +kernel) (by decide +kernel)) (goodIn_sub (fun _ h => List.mem_cons_of_mem _ (List.mem_append_left _ (List.mem_append_left _ (List.mem_append_right _ h)))) (by decide +kernel))
set_option maxRecDepth 20000 in
theorem gX1_insert_X1_findAtPlace : GoodIn wsX1_insert (wsV RX1 60 RX1 yX1_findAtPlace wsX1_findAtPlace) := goodIn_app (goodIn_of _ (by decide +kernel)) ggX1_insert_X1_findAtPlace
set_option maxRecDepth 20000 in
theorem ggX1_insert_X1_nextStamp : GoodIn wsX1_insert wsX1_nextStamp := goodIn_r _ [36, 37, 55, 56, 57, 58, 59, 60, 61, 62, 63] (by decide +kernel) (by decide +kernel)
set_option maxRecDepth 20000 in
theorem gX1_insert_X1_nextStamp : GoodIn wsX1_insert (wsV RX1 69 RX1 yX1_nextStamp wsX1_nextStamp) := goodIn_app (goodIn_of _ (by decide +kernel)) ggX1_insert_X1_nextStamp
set_option maxRecDepth 20000 in
theorem ggX1_insert_X0_init : GoodIn wsX1_insert wsX0_init := goodIn_r _ [39, 40, 41, 42, 43, 44, 32, 45, 27, 46, 47, 48, 49, 50, 64, 65, 66, 67, 68, 69, 70, 71] (by decide +kernel) (by decide +kernel)
set_option maxRecDepth 20000 in
theorem gX1_insert_X0_init_n73 : GoodIn wsX1_insert (wsX0_init) := ggX1_insert_X0_init
set_option maxRecDepth 20000 in
theorem ggX1_insert_X1_putInOrder : GoodIn wsX1_insert wsX1_putInOrder := goodIn_r _ [54, 23, 64, 65, 66, 67, 68, 69, 70, 71, 55, 56, 57, 58, 59, 60, 61, 62, 63] (by decide +kernel) (by decide +kernel)
set_option maxRecDepth 20000 in
theorem gX1_insert_X1_putInOrder : GoodIn wsX1_insert (wsV RX1 76 RX1 yX1_putInOrder wsX1_putInOrder) := goodIn_app (goodIn_of _ (by decide +kernel)) ggX1_insert_X1_putInOrder
theorem dX1_insert_0 : decode cX1_insert 0 = .ok (.iload_n 1, 1) := by decide +kernel
theorem dX1_insert_1 : decode cX1_insert 1 = .ok (.invokestatic 45, 3) := by decide +kernel
theorem dX1_insert_4 : decode cX1_insert 4 = .ok (.iload_n 3, 1) := by decide +kernel
theorem dX1_insert_5 : decode cX1_insert 5 = .ok (.iconst 0, 1) := by decide +kernel
theorem dX1_insert_6 : decode cX1_insert 6 = .ok (.bipush 25, 2) := by decide +kernel
theorem dX1_insert_8 : decode cX1_insert 8 = .ok (.invokestatic 49, 3) := by decide +kernel
theorem dX1_insert_11 : decode cX1_insert 11 = .ok (.iload_n 2, 1) := by decide +kernel
theorem dX1_insert_12 : decode cX1_insert 12 = .ok (.ifCond .ge 13, 3) := by decide +kernel
theorem dX1_insert_15 : decode cX1_insert 15 = .ok (.new 53, 3) := by decide +kernel
theorem dX1_insert_18 : decode cX1_insert 18 = .ok (.dup, 1) := by decide +kernel
theorem dX1_insert_19 : decode cX1_insert 19 = .ok (.ldc 55, 2) := by decide +kernel
theorem dX1_insert_21 : decode cX1_insert 21 = .ok (.invokespecial 57, 3) := by decide +kernel
theorem dX1_insert_24 : decode cX1_insert 24 = .ok (.athrow, 1) := by decide +kernel
theorem dX1_insert_25 : decode cX1_insert 25 = .ok (.iload_n 2, 1) := by decide +kernel
theorem dX1_insert_26 : decode cX1_insert 26 = .ok (.ifCond .ne 7, 3) := by decide +kernel
theorem dX1_insert_29 : decode cX1_insert 29 = .ok (.aconst_null, 1) := by decide +kernel
theorem dX1_insert_30 : decode cX1_insert 30 = .ok (.goto 11, 3) := by decide +kernel
theorem dX1_insert_33 : decode cX1_insert 33 = .ok (.aload_n 0, 1) := by decide +kernel
theorem dX1_insert_34 : decode cX1_insert 34 = .ok (.iload_n 1, 1) := by decide +kernel
theorem dX1_insert_35 : decode cX1_insert 35 = .ok (.iload_n 2, 1) := by decide +kernel
theorem dX1_insert_36 : decode cX1_insert 36 = .ok (.iconst 1, 1) := by decide +kernel
theorem dX1_insert_37 : decode cX1_insert 37 = .ok (.isub, 1) := by decide +kernel
theorem dX1_insert_38 : decode cX1_insert 38 = .ok (.invokevirtual 60, 3) := by decide +kernel
theorem dX1_insert_41 : decode cX1_insert 41 = .ok (.astore 4, 2) := by decide +kernel
theorem dX1_insert_43 : decode cX1_insert 43 = .ok (.aload_n 0, 1) := by decide +kernel
theorem dX1_insert_44 : decode cX1_insert 44 = .ok (.getfield 15, 3) := by decide +kernel
theorem dX1_insert_47 : decode cX1_insert 47 = .ok (.bipush 60, 2) := by decide +kernel
theorem dX1_insert_49 : decode cX1_insert 49 = .ok (.if_icmp .lt 13, 3) := by decide +kernel
theorem dX1_insert_52 : decode cX1_insert 52 = .ok (.new 64, 3) := by decide +kernel
theorem dX1_insert_55 : decode cX1_insert 55 = .ok (.dup, 1) := by decide +kernel
theorem dX1_insert_56 : decode cX1_insert 56 = .ok (.ldc 66, 2) := by decide +kernel
theorem dX1_insert_58 : decode cX1_insert 58 = .ok (.invokespecial 68, 3) := by decide +kernel
theorem dX1_insert_61 : decode cX1_insert 61 = .ok (.athrow, 1) := by decide +kernel
theorem dX1_insert_62 : decode cX1_insert 62 = .ok (.new 9, 3) := by decide +kernel
theorem dX1_insert_65 : decode cX1_insert 65 = .ok (.dup, 1) := by decide +kernel
theorem dX1_insert_66 : decode cX1_insert 66 = .ok (.aload_n 0, 1) := by decide +kernel
theorem dX1_insert_67 : decode cX1_insert 67 = .ok (.getfield 15, 3) := by decide +kernel
theorem dX1_insert_70 : decode cX1_insert 70 = .ok (.iload_n 1, 1) := by decide +kernel
theorem dX1_insert_71 : decode cX1_insert 71 = .ok (.iload_n 3, 1) := by decide +kernel
theorem dX1_insert_72 : decode cX1_insert 72 = .ok (.aload_n 0, 1) := by decide +kernel
theorem dX1_insert_73 : decode cX1_insert 73 = .ok (.iload_n 1, 1) := by decide +kernel
theorem dX1_insert_74 : decode cX1_insert 74 = .ok (.invokevirtual 69, 3) := by decide +kernel
theorem dX1_insert_77 : decode cX1_insert 77 = .ok (.aload 4, 2) := by decide +kernel
theorem dX1_insert_79 : decode cX1_insert 79 = .ok (.invokespecial 73, 3) := by decide +kernel
theorem dX1_insert_82 : decode cX1_insert 82 = .ok (.astore 5, 2) := by decide +kernel
theorem dX1_insert_84 : decode cX1_insert 84 = .ok (.aload_n 0, 1) := by decide +kernel
theorem dX1_insert_85 : decode cX1_insert 85 = .ok (.getfield 11, 3) := by decide +kernel
theorem dX1_insert_88 : decode cX1_insert 88 = .ok (.aload_n 0, 1) := by decide +kernel
theorem dX1_insert_89 : decode cX1_insert 89 = .ok (.getfield 15, 3) := by decide +kernel
theorem dX1_insert_92 : decode cX1_insert 92 = .ok (.aload 5, 2) := by decide +kernel
theorem dX1_insert_94 : decode cX1_insert 94 = .ok (.aastore, 1) := by decide +kernel
theorem dX1_insert_95 : decode cX1_insert 95 = .ok (.aload_n 0, 1) := by decide +kernel
theorem dX1_insert_96 : decode cX1_insert 96 = .ok (.dup, 1) := by decide +kernel
theorem dX1_insert_97 : decode cX1_insert 97 = .ok (.getfield 15, 3) := by decide +kernel
theorem dX1_insert_100 : decode cX1_insert 100 = .ok (.iconst 1, 1) := by decide +kernel
theorem dX1_insert_101 : decode cX1_insert 101 = .ok (.iadd, 1) := by decide +kernel
theorem dX1_insert_102 : decode cX1_insert 102 = .ok (.putfield 15, 3) := by decide +kernel
theorem dX1_insert_105 : decode cX1_insert 105 = .ok (.aload_n 0, 1) := by decide +kernel
theorem dX1_insert_106 : decode cX1_insert 106 = .ok (.aload 5, 2) := by decide +kernel
theorem dX1_insert_108 : decode cX1_insert 108 = .ok (.invokevirtual 76, 3) := by decide +kernel
theorem dX1_insert_111 : decode cX1_insert 111 = .ok (.aload 5, 2) := by decide +kernel
theorem dX1_insert_113 : decode cX1_insert 113 = .ok (.getfield 80, 3) := by decide +kernel
theorem dX1_insert_116 : decode cX1_insert 116 = .ok (.ireturn, 1) := by decide +kernel
set_option maxRecDepth 20000 in
theorem ggX1_remove_X1_checkAuthor : GoodIn wsX1_remove wsX1_checkAuthor := goodIn_ca (goodIn_r _ [4, 5, 6, 3, 7, 8, 9] (by decide +kernel) (by decide +kernel)) (goodIn_sub (fun _ h => List.mem_cons_of_mem _ (List.mem_append_left _ (List.mem_append_right _ h))) (by decide +kernel))
set_option maxRecDepth 20000 in
theorem gX1_remove_X1_checkAuthor : GoodIn wsX1_remove (va_wsS RX1 45 yX1_checkAuthor wsX1_checkAuthor) := goodIn_app (goodIn_of _ (by decide +kernel)) ggX1_remove_X1_checkAuthor
set_option maxRecDepth 20000 in
theorem ggX1_remove_X1_findAtPlace : GoodIn wsX1_remove wsX1_findAtPlace := goodIn_ca (goodIn_r _ [13, 14, 15, 16, 17, 18, 19, 20, 21, 22, 23, 24, 25, 26, 43, 44, 45, 46, 47, 48, 49, 50, 51, 35, 36, 37, 38, 39, 40, 41, 42] (by decide +kernel) (by decide +kernel)) (goodIn_sub (fun _ h => List.mem_cons_of_mem _ (List.mem_append_right _ h)) (by decide +kernel))
set_option maxRecDepth 20000 in
theorem gX1_remove_X1_findAtPlace : GoodIn wsX1_remove (wsV RX1 60 RX1 yX1_findAtPlace wsX1_findAtPlace) := goodIn_app (goodIn_of _ (by decide +kernel)) ggX1_remove_X1_findAtPlace
set_option maxRecDepth 20000 in
theorem ggX1_remove_X1_nextStamp : GoodIn wsX1_remove wsX1_nextStamp := goodIn_r _ [30, 31, 43, 44, 45, 46, 47, 48, 49, 50, 51] (by decide +kernel) (by decide +kernel)
set_option maxRecDepth 20000 in
theorem gX1_remove_X1_nextStamp : GoodIn wsX1_remove (wsV RX1 69 RX1 yX1_nextStamp wsX1_nextStamp) := goodIn_app (goodIn_of _ (by decide +kernel)) ggX1_remove_X1_nextStamp
set_option maxRecDepth 20000 in
theorem ggX1_remove_X0_setRemoved : GoodIn wsX1_remove wsX0_setRemoved := goodIn_r _ [34, 21, 26, 35, 36, 37, 38, 39, 40, 41, 42] (by decide +kernel) (by decide +kernel)
set_option maxRecDepth 20000 in
theorem gX1_remove_X0_setRemoved_n83 : GoodIn wsX1_remove (wsX0_setRemoved) := ggX1_remove_X0_setRemoved
theorem dX1_remove_0 : decode cX1_remove 0 = .ok (.iload_n 1, 1) := by decide +kernel
theorem dX1_remove_1 : decode cX1_remove 1 = .ok (.invokestatic 45, 3) := by decide +kernel
theorem dX1_remove_4 : decode cX1_remove 4 = .ok (.aload_n 0, 1) := by decide +kernel
theorem dX1_remove_5 : decode cX1_remove 5 = .ok (.iload_n 1, 1) := by decide +kernel
theorem dX1_remove_6 : decode cX1_remove 6 = .ok (.iload_n 2, 1) := by decide +kernel
theorem dX1_remove_7 : decode cX1_remove 7 = .ok (.invokevirtual 60, 3) := by decide +kernel
theorem dX1_remove_10 : decode cX1_remove 10 = .ok (.astore_n 3, 1) := by decide +kernel
theorem dX1_remove_11 : decode cX1_remove 11 = .ok (.aload_n 3, 1) := by decide +kernel
theorem dX1_remove_12 : decode cX1_remove 12 = .ok (.iload_n 1, 1) := by decide +kernel
theorem dX1_remove_13 : decode cX1_remove 13 = .ok (.iconst 1, 1) := by decide +kernel
theorem dX1_remove_14 : decode cX1_remove 14 = .ok (.aload_n 0, 1) := by decide +kernel
theorem dX1_remove_15 : decode cX1_remove 15 = .ok (.iload_n 1, 1) := by decide +kernel
theorem dX1_remove_16 : decode cX1_remove 16 = .ok (.invokevirtual 69, 3) := by decide +kernel
theorem dX1_remove_19 : decode cX1_remove 19 = .ok (.invokevirtual 83, 3) := by decide +kernel
theorem dX1_remove_22 : decode cX1_remove 22 = .ok (.aload_n 3, 1) := by decide +kernel
theorem dX1_remove_23 : decode cX1_remove 23 = .ok (.getfield 80, 3) := by decide +kernel
theorem dX1_remove_26 : decode cX1_remove 26 = .ok (.ireturn, 1) := by decide +kernel
set_option maxRecDepth 20000 in
theorem ggX1_restore_X1_findByNumber : GoodIn wsX1_restore wsX1_findByNumber := goodIn_ca (goodIn_r _ [7, 8, 9, 10, 11, 46, 47, 48, 49, 50, 51, 52, 53, 54] (by decide +kernel) (by decide +kernel)) (goodIn_sub (fun _ h => List.mem_cons_of_mem _ (List.mem_append_left _ (List.mem_append_right _ h))) (by decide +kernel))
set_option maxRecDepth 20000 in
theorem gX1_restore_X1_findByNumber : GoodIn wsX1_restore (wsV RX1 87 RX1 yX1_findByNumber wsX1_findByNumber) := goodIn_app (goodIn_of _ (by decide +kernel)) ggX1_restore_X1_findByNumber
set_option maxRecDepth 20000 in
theorem ggX1_restore_X1_checkAuthor : GoodIn wsX1_restore wsX1_checkAuthor := goodIn_ca (goodIn_r _ [14, 15, 16, 6, 17, 18, 19] (by decide +kernel) (by decide +kernel)) (goodIn_sub (fun _ h => List.mem_cons_of_mem _ (List.mem_append_right _ h)) (by decide +kernel))
set_option maxRecDepth 20000 in
theorem gX1_restore_X1_checkAuthor : GoodIn wsX1_restore (va_wsS RX1 45 yX1_checkAuthor wsX1_checkAuthor) := goodIn_app (goodIn_of _ (by decide +kernel)) ggX1_restore_X1_checkAuthor
set_option maxRecDepth 20000 in
theorem ggX1_restore_X0_isRemovedIn : GoodIn wsX1_restore wsX0_isRemovedIn := goodIn_r _ [23, 24, 25, 26, 27, 21, 28, 29, 55, 56, 57, 58, 59, 60, 61, 62] (by decide +kernel) (by decide +kernel)
set_option maxRecDepth 20000 in
theorem gX1_restore_X0_isRemovedIn_n91 : GoodIn wsX1_restore (wsX0_isRemovedIn) := ggX1_restore_X0_isRemovedIn
set_option maxRecDepth 20000 in
theorem ggX1_restore_X1_nextStamp : GoodIn wsX1_restore wsX1_nextStamp := goodIn_r _ [33, 34, 46, 47, 48, 49, 50, 51, 52, 53, 54] (by decide +kernel) (by decide +kernel)
set_option maxRecDepth 20000 in
theorem gX1_restore_X1_nextStamp : GoodIn wsX1_restore (wsV RX1 69 RX1 yX1_nextStamp wsX1_nextStamp) := goodIn_app (goodIn_of _ (by decide +kernel)) ggX1_restore_X1_nextStamp
set_option maxRecDepth 20000 in
theorem ggX1_restore_X0_setRemoved : GoodIn wsX1_restore wsX0_setRemoved := goodIn_r _ [37, 24, 29, 55, 56, 57, 58, 59, 60, 61, 62] (by decide +kernel) (by decide +kernel)
set_option maxRecDepth 20000 in
theorem gX1_restore_X0_setRemoved_n83 : GoodIn wsX1_restore (wsX0_setRemoved) := ggX1_restore_X0_setRemoved
set_option maxRecDepth 20000 in
theorem ggX1_restore_X1_countAheadOf : GoodIn wsX1_restore wsX1_countAheadOf := goodIn_r _ [41, 42, 43, 21, 44, 45, 24, 25, 26, 27, 28, 29, 46, 47, 48, 49, 50, 51, 52, 53, 54, 55, 56, 57, 58, 59, 60, 61, 62] (by decide +kernel) (by decide +kernel)
set_option maxRecDepth 20000 in
theorem gX1_restore_X1_countAheadOf : GoodIn wsX1_restore (wsV RX1 97 RX1 yX1_countAheadOf wsX1_countAheadOf) := goodIn_app (goodIn_of _ (by decide +kernel)) ggX1_restore_X1_countAheadOf
theorem dX1_restore_0 : decode cX1_restore 0 = .ok (.aload_n 0, 1) := by decide +kernel
theorem dX1_restore_1 : decode cX1_restore 1 = .ok (.iload_n 2, 1) := by decide +kernel
theorem dX1_restore_2 : decode cX1_restore 2 = .ok (.invokevirtual 87, 3) := by decide +kernel
theorem dX1_restore_5 : decode cX1_restore 5 = .ok (.astore_n 3, 1) := by decide +kernel
theorem dX1_restore_6 : decode cX1_restore 6 = .ok (.iload_n 1, 1) := by decide +kernel
theorem dX1_restore_7 : decode cX1_restore 7 = .ok (.invokestatic 45, 3) := by decide +kernel
theorem dX1_restore_10 : decode cX1_restore 10 = .ok (.aload_n 3, 1) := by decide +kernel
theorem dX1_restore_11 : decode cX1_restore 11 = .ok (.iload_n 1, 1) := by decide +kernel
theorem dX1_restore_12 : decode cX1_restore 12 = .ok (.invokevirtual 91, 3) := by decide +kernel
theorem dX1_restore_15 : decode cX1_restore 15 = .ok (.ifCond .ne 13, 3) := by decide +kernel
theorem dX1_restore_18 : decode cX1_restore 18 = .ok (.new 64, 3) := by decide +kernel
theorem dX1_restore_21 : decode cX1_restore 21 = .ok (.dup, 1) := by decide +kernel
theorem dX1_restore_22 : decode cX1_restore 22 = .ok (.ldc 95, 2) := by decide +kernel
theorem dX1_restore_24 : decode cX1_restore 24 = .ok (.invokespecial 68, 3) := by decide +kernel
theorem dX1_restore_27 : decode cX1_restore 27 = .ok (.athrow, 1) := by decide +kernel
theorem dX1_restore_28 : decode cX1_restore 28 = .ok (.aload_n 3, 1) := by decide +kernel
theorem dX1_restore_29 : decode cX1_restore 29 = .ok (.iload_n 1, 1) := by decide +kernel
theorem dX1_restore_30 : decode cX1_restore 30 = .ok (.iconst 0, 1) := by decide +kernel
theorem dX1_restore_31 : decode cX1_restore 31 = .ok (.aload_n 0, 1) := by decide +kernel
theorem dX1_restore_32 : decode cX1_restore 32 = .ok (.iload_n 1, 1) := by decide +kernel
theorem dX1_restore_33 : decode cX1_restore 33 = .ok (.invokevirtual 69, 3) := by decide +kernel
theorem dX1_restore_36 : decode cX1_restore 36 = .ok (.invokevirtual 83, 3) := by decide +kernel
theorem dX1_restore_39 : decode cX1_restore 39 = .ok (.aload_n 0, 1) := by decide +kernel
theorem dX1_restore_40 : decode cX1_restore 40 = .ok (.iload_n 1, 1) := by decide +kernel
theorem dX1_restore_41 : decode cX1_restore 41 = .ok (.aload_n 3, 1) := by decide +kernel
theorem dX1_restore_42 : decode cX1_restore 42 = .ok (.invokevirtual 97, 3) := by decide +kernel
theorem dX1_restore_45 : decode cX1_restore 45 = .ok (.ireturn, 1) := by decide +kernel
set_option maxRecDepth 20000 in
theorem ggX1_learn_X1_checkAuthor : GoodIn wsX1_learn wsX1_checkAuthor := goodIn_ca (goodIn_r _ [12, 13, 14, 11, 15, 1, 2] (by decide +kernel) (by decide +kernel)) (goodIn_sub (fun _ h => List.mem_cons_of_mem _ (List.mem_append_right _ h)) (by decide +kernel))
set_option maxRecDepth 20000 in
theorem gX1_learn_X1_checkAuthor : GoodIn wsX1_learn (va_wsS RX1 45 yX1_checkAuthor wsX1_checkAuthor) := goodIn_app (goodIn_of _ (by decide +kernel)) ggX1_learn_X1_checkAuthor
set_option maxRecDepth 20000 in
theorem ggX1_learn_X0_isKnownIn : GoodIn wsX1_learn wsX0_isKnownIn := goodIn_r _ [19, 20, 38, 39, 40, 41, 42, 43, 44, 45] (by decide +kernel) (by decide +kernel)
set_option maxRecDepth 20000 in
theorem gX1_learn_X0_isKnownIn_n106 : GoodIn wsX1_learn (wsX0_isKnownIn) := ggX1_learn_X0_isKnownIn
set_option maxRecDepth 20000 in
theorem ggX1_learn_X0_bringNewer : GoodIn wsX1_learn wsX0_bringNewer := goodIn_r _ [23, 20, 24, 25, 26, 27, 17, 28, 38, 39, 40, 41, 42, 43, 44, 45] (by decide +kernel) (by decide +kernel)
set_option maxRecDepth 20000 in
theorem gX1_learn_X0_bringNewer_n109 : GoodIn wsX1_learn (wsX0_bringNewer) := ggX1_learn_X0_bringNewer
theorem dX1_learn_0 : decode cX1_learn 0 = .ok (.iload_n 1, 1) := by decide +kernel
theorem dX1_learn_1 : decode cX1_learn 1 = .ok (.invokestatic 45, 3) := by decide +kernel
theorem dX1_learn_4 : decode cX1_learn 4 = .ok (.iload_n 2, 1) := by decide +kernel
theorem dX1_learn_5 : decode cX1_learn 5 = .ok (.invokestatic 45, 3) := by decide +kernel
theorem dX1_learn_8 : decode cX1_learn 8 = .ok (.iload_n 1, 1) := by decide +kernel
theorem dX1_learn_9 : decode cX1_learn 9 = .ok (.iload_n 2, 1) := by decide +kernel
theorem dX1_learn_10 : decode cX1_learn 10 = .ok (.if_icmp .ne 13, 3) := by decide +kernel
theorem dX1_learn_13 : decode cX1_learn 13 = .ok (.new 101, 3) := by decide +kernel
theorem dX1_learn_16 : decode cX1_learn 16 = .ok (.dup, 1) := by decide +kernel
theorem dX1_learn_17 : decode cX1_learn 17 = .ok (.ldc 103, 2) := by decide +kernel
theorem dX1_learn_19 : decode cX1_learn 19 = .ok (.invokespecial 105, 3) := by decide +kernel
theorem dX1_learn_22 : decode cX1_learn 22 = .ok (.athrow, 1) := by decide +kernel
theorem dX1_learn_23 : decode cX1_learn 23 = .ok (.iconst 0, 1) := by decide +kernel
theorem dX1_learn_24 : decode cX1_learn 24 = .ok (.istore_n 3, 1) := by decide +kernel
theorem dX1_learn_25 : decode cX1_learn 25 = .ok (.aload_n 0, 1) := by decide +kernel
theorem dX1_learn_26 : decode cX1_learn 26 = .ok (.getfield 19, 3) := by decide +kernel
theorem dX1_learn_29 : decode cX1_learn 29 = .ok (.astore 4, 2) := by decide +kernel
theorem dX1_learn_31 : decode cX1_learn 31 = .ok (.aload 4, 2) := by decide +kernel
theorem dX1_learn_33 : decode cX1_learn 33 = .ok (.ifnull 41, 3) := by decide +kernel
theorem dX1_learn_36 : decode cX1_learn 36 = .ok (.aload 4, 2) := by decide +kernel
theorem dX1_learn_38 : decode cX1_learn 38 = .ok (.iload_n 2, 1) := by decide +kernel
theorem dX1_learn_39 : decode cX1_learn 39 = .ok (.invokevirtual 106, 3) := by decide +kernel
theorem dX1_learn_42 : decode cX1_learn 42 = .ok (.ifCond .eq 15, 3) := by decide +kernel
theorem dX1_learn_45 : decode cX1_learn 45 = .ok (.aload 4, 2) := by decide +kernel
theorem dX1_learn_47 : decode cX1_learn 47 = .ok (.iload_n 1, 1) := by decide +kernel
theorem dX1_learn_48 : decode cX1_learn 48 = .ok (.invokevirtual 106, 3) := by decide +kernel
theorem dX1_learn_51 : decode cX1_learn 51 = .ok (.ifCond .ne 6, 3) := by decide +kernel
theorem dX1_learn_54 : decode cX1_learn 54 = .ok (.iinc 3 1, 3) := by decide +kernel
theorem dX1_learn_57 : decode cX1_learn 57 = .ok (.aload 4, 2) := by decide +kernel
theorem dX1_learn_59 : decode cX1_learn 59 = .ok (.iload_n 1, 1) := by decide +kernel
theorem dX1_learn_60 : decode cX1_learn 60 = .ok (.iload_n 2, 1) := by decide +kernel
theorem dX1_learn_61 : decode cX1_learn 61 = .ok (.invokevirtual 109, 3) := by decide +kernel
theorem dX1_learn_64 : decode cX1_learn 64 = .ok (.aload 4, 2) := by decide +kernel
theorem dX1_learn_66 : decode cX1_learn 66 = .ok (.getfield 113, 3) := by decide +kernel
theorem dX1_learn_69 : decode cX1_learn 69 = .ok (.astore 4, 2) := by decide +kernel
theorem dX1_learn_71 : decode cX1_learn 71 = .ok (.goto (-40), 3) := by decide +kernel
theorem dX1_learn_74 : decode cX1_learn 74 = .ok (.aload_n 0, 1) := by decide +kernel
theorem dX1_learn_75 : decode cX1_learn 75 = .ok (.getfield 23, 3) := by decide +kernel
theorem dX1_learn_78 : decode cX1_learn 78 = .ok (.iload_n 1, 1) := by decide +kernel
theorem dX1_learn_79 : decode cX1_learn 79 = .ok (.aload_n 0, 1) := by decide +kernel
theorem dX1_learn_80 : decode cX1_learn 80 = .ok (.getfield 23, 3) := by decide +kernel
theorem dX1_learn_83 : decode cX1_learn 83 = .ok (.iload_n 1, 1) := by decide +kernel
theorem dX1_learn_84 : decode cX1_learn 84 = .ok (.iaload, 1) := by decide +kernel
theorem dX1_learn_85 : decode cX1_learn 85 = .ok (.aload_n 0, 1) := by decide +kernel
theorem dX1_learn_86 : decode cX1_learn 86 = .ok (.getfield 23, 3) := by decide +kernel
theorem dX1_learn_89 : decode cX1_learn 89 = .ok (.iload_n 2, 1) := by decide +kernel
theorem dX1_learn_90 : decode cX1_learn 90 = .ok (.iaload, 1) := by decide +kernel
theorem dX1_learn_91 : decode cX1_learn 91 = .ok (.invokestatic 116, 3) := by decide +kernel
theorem dX1_learn_94 : decode cX1_learn 94 = .ok (.iastore, 1) := by decide +kernel
theorem dX1_learn_95 : decode cX1_learn 95 = .ok (.iload_n 3, 1) := by decide +kernel
theorem dX1_learn_96 : decode cX1_learn 96 = .ok (.ireturn, 1) := by decide +kernel
set_option maxRecDepth 20000 in
theorem ggX1_length_X1_checkAuthor : GoodIn wsX1_length wsX1_checkAuthor := goodIn_ca (goodIn_r _ [4, 5, 6, 3, 7, 8, 9] (by decide +kernel) (by decide +kernel)) (goodIn_sub (fun _ h => List.mem_cons_of_mem _ (List.mem_append_right _ h)) (by decide +kernel))
set_option maxRecDepth 20000 in
theorem gX1_length_X1_checkAuthor : GoodIn wsX1_length (va_wsS RX1 45 yX1_checkAuthor wsX1_checkAuthor) := goodIn_app (goodIn_of _ (by decide +kernel)) ggX1_length_X1_checkAuthor
set_option maxRecDepth 20000 in
theorem ggX1_length_X1_countAheadOf : GoodIn wsX1_length wsX1_countAheadOf := goodIn_r _ [13, 14, 15, 16, 17, 18, 19, 20, 21, 22, 23, 24, 25, 26, 27, 28, 29, 30, 31, 32, 33, 34, 35, 36, 37, 38, 39, 40, 41] (by decide +kernel) (by decide +kernel)
set_option maxRecDepth 20000 in
theorem gX1_length_X1_countAheadOf : GoodIn wsX1_length (wsV RX1 97 RX1 yX1_countAheadOf wsX1_countAheadOf) := goodIn_app (goodIn_of _ (by decide +kernel)) ggX1_length_X1_countAheadOf
theorem dX1_length_0 : decode cX1_length 0 = .ok (.iload_n 1, 1) := by decide +kernel
theorem dX1_length_1 : decode cX1_length 1 = .ok (.invokestatic 45, 3) := by decide +kernel
theorem dX1_length_4 : decode cX1_length 4 = .ok (.aload_n 0, 1) := by decide +kernel
theorem dX1_length_5 : decode cX1_length 5 = .ok (.iload_n 1, 1) := by decide +kernel
theorem dX1_length_6 : decode cX1_length 6 = .ok (.aconst_null, 1) := by decide +kernel
theorem dX1_length_7 : decode cX1_length 7 = .ok (.invokevirtual 97, 3) := by decide +kernel
theorem dX1_length_10 : decode cX1_length 10 = .ok (.ireturn, 1) := by decide +kernel
set_option maxRecDepth 20000 in
theorem ggX1_signAt_X1_checkAuthor : GoodIn wsX1_signAt wsX1_checkAuthor := goodIn_ca (goodIn_r _ [4, 5, 6, 3, 7, 8, 9] (by decide +kernel) (by decide +kernel)) (goodIn_sub (fun _ h => List.mem_cons_of_mem _ (List.mem_append_left _ (List.mem_append_right _ h))) (by decide +kernel))
set_option maxRecDepth 20000 in
theorem gX1_signAt_X1_checkAuthor : GoodIn wsX1_signAt (va_wsS RX1 45 yX1_checkAuthor wsX1_checkAuthor) := goodIn_app (goodIn_of _ (by decide +kernel)) ggX1_signAt_X1_checkAuthor
set_option maxRecDepth 20000 in
theorem ggX1_signAt_X1_findAtPlace : GoodIn wsX1_signAt wsX1_findAtPlace := goodIn_ca (goodIn_r _ [13, 14, 15, 16, 17, 18, 19, 20, 21, 22, 23, 24, 25, 26, 35, 36, 37, 38, 39, 40, 41, 42, 43, 27, 28, 29, 30, 31, 32, 33, 34] (by decide +kernel) (by decide +kernel)) (goodIn_sub (fun _ h => List.mem_cons_of_mem _ (List.mem_append_right _ h)) (by decide +kernel))
set_option maxRecDepth 20000 in
theorem gX1_signAt_X1_findAtPlace : GoodIn wsX1_signAt (wsV RX1 60 RX1 yX1_findAtPlace wsX1_findAtPlace) := goodIn_app (goodIn_of _ (by decide +kernel)) ggX1_signAt_X1_findAtPlace
theorem dX1_signAt_0 : decode cX1_signAt 0 = .ok (.iload_n 1, 1) := by decide +kernel
theorem dX1_signAt_1 : decode cX1_signAt 1 = .ok (.invokestatic 45, 3) := by decide +kernel
theorem dX1_signAt_4 : decode cX1_signAt 4 = .ok (.aload_n 0, 1) := by decide +kernel
theorem dX1_signAt_5 : decode cX1_signAt 5 = .ok (.iload_n 1, 1) := by decide +kernel
theorem dX1_signAt_6 : decode cX1_signAt 6 = .ok (.iload_n 2, 1) := by decide +kernel
theorem dX1_signAt_7 : decode cX1_signAt 7 = .ok (.invokevirtual 60, 3) := by decide +kernel
theorem dX1_signAt_10 : decode cX1_signAt 10 = .ok (.getfield 80, 3) := by decide +kernel
theorem dX1_signAt_13 : decode cX1_signAt 13 = .ok (.ireturn, 1) := by decide +kernel
set_option maxRecDepth 20000 in
theorem ggX1_letterAt_X1_checkAuthor : GoodIn wsX1_letterAt wsX1_checkAuthor := goodIn_ca (goodIn_r _ [4, 5, 6, 3, 7, 8, 9] (by decide +kernel) (by decide +kernel)) (goodIn_sub (fun _ h => List.mem_cons_of_mem _ (List.mem_append_left _ (List.mem_append_right _ h))) (by decide +kernel))
set_option maxRecDepth 20000 in
theorem gX1_letterAt_X1_checkAuthor : GoodIn wsX1_letterAt (va_wsS RX1 45 yX1_checkAuthor wsX1_checkAuthor) := goodIn_app (goodIn_of _ (by decide +kernel)) ggX1_letterAt_X1_checkAuthor
set_option maxRecDepth 20000 in
theorem ggX1_letterAt_X1_findAtPlace : GoodIn wsX1_letterAt wsX1_findAtPlace := goodIn_ca (goodIn_r _ [13, 14, 15, 16, 17, 18, 19, 20, 21, 22, 23, 24, 25, 26, 35, 36, 37, 38, 39, 40, 41, 42, 43, 27, 28, 29, 30, 31, 32, 33, 34] (by decide +kernel) (by decide +kernel)) (goodIn_sub (fun _ h => List.mem_cons_of_mem _ (List.mem_append_right _ h)) (by decide +kernel))
set_option maxRecDepth 20000 in
theorem gX1_letterAt_X1_findAtPlace : GoodIn wsX1_letterAt (wsV RX1 60 RX1 yX1_findAtPlace wsX1_findAtPlace) := goodIn_app (goodIn_of _ (by decide +kernel)) ggX1_letterAt_X1_findAtPlace
theorem dX1_letterAt_0 : decode cX1_letterAt 0 = .ok (.iload_n 1, 1) := by decide +kernel
theorem dX1_letterAt_1 : decode cX1_letterAt 1 = .ok (.invokestatic 45, 3) := by decide +kernel
theorem dX1_letterAt_4 : decode cX1_letterAt 4 = .ok (.aload_n 0, 1) := by decide +kernel
theorem dX1_letterAt_5 : decode cX1_letterAt 5 = .ok (.iload_n 1, 1) := by decide +kernel
theorem dX1_letterAt_6 : decode cX1_letterAt 6 = .ok (.iload_n 2, 1) := by decide +kernel
theorem dX1_letterAt_7 : decode cX1_letterAt 7 = .ok (.invokevirtual 60, 3) := by decide +kernel
theorem dX1_letterAt_10 : decode cX1_letterAt 10 = .ok (.getfield 122, 3) := by decide +kernel
theorem dX1_letterAt_13 : decode cX1_letterAt 13 = .ok (.ireturn, 1) := by decide +kernel
set_option maxRecDepth 20000 in
theorem ggX1_areAlike_X1_checkAuthor : GoodIn wsX1_areAlike wsX1_checkAuthor := goodIn_ca (goodIn_r _ [5, 6, 7, 4, 8, 9, 10] (by decide +kernel) (by decide +kernel)) (goodIn_sub (fun _ h => List.mem_cons_of_mem _ (List.mem_append_right _ h)) (by decide +kernel))
set_option maxRecDepth 20000 in
theorem gX1_areAlike_X1_checkAuthor : GoodIn wsX1_areAlike (va_wsS RX1 45 yX1_checkAuthor wsX1_checkAuthor) := goodIn_app (goodIn_of _ (by decide +kernel)) ggX1_areAlike_X1_checkAuthor
set_option maxRecDepth 20000 in
theorem ggX1_areAlike_X0_isInTextOf : GoodIn wsX1_areAlike wsX0_isInTextOf := goodIn_r _ [14, 15, 16, 17, 18, 12, 19, 20, 30, 31, 32, 33, 34, 35, 36, 37] (by decide +kernel) (by decide +kernel)
set_option maxRecDepth 20000 in
theorem gX1_areAlike_X0_isInTextOf_n125 : GoodIn wsX1_areAlike (wsX0_isInTextOf) := ggX1_areAlike_X0_isInTextOf
theorem dX1_areAlike_0 : decode cX1_areAlike 0 = .ok (.iload_n 1, 1) := by decide +kernel
theorem dX1_areAlike_1 : decode cX1_areAlike 1 = .ok (.invokestatic 45, 3) := by decide +kernel
theorem dX1_areAlike_4 : decode cX1_areAlike 4 = .ok (.iload_n 2, 1) := by decide +kernel
theorem dX1_areAlike_5 : decode cX1_areAlike 5 = .ok (.invokestatic 45, 3) := by decide +kernel
theorem dX1_areAlike_8 : decode cX1_areAlike 8 = .ok (.aload_n 0, 1) := by decide +kernel
theorem dX1_areAlike_9 : decode cX1_areAlike 9 = .ok (.getfield 19, 3) := by decide +kernel
theorem dX1_areAlike_12 : decode cX1_areAlike 12 = .ok (.astore_n 3, 1) := by decide +kernel
theorem dX1_areAlike_13 : decode cX1_areAlike 13 = .ok (.aload_n 3, 1) := by decide +kernel
theorem dX1_areAlike_14 : decode cX1_areAlike 14 = .ok (.ifnull 26, 3) := by decide +kernel
theorem dX1_areAlike_17 : decode cX1_areAlike 17 = .ok (.aload_n 3, 1) := by decide +kernel
theorem dX1_areAlike_18 : decode cX1_areAlike 18 = .ok (.iload_n 1, 1) := by decide +kernel
theorem dX1_areAlike_19 : decode cX1_areAlike 19 = .ok (.invokevirtual 125, 3) := by decide +kernel
theorem dX1_areAlike_22 : decode cX1_areAlike 22 = .ok (.aload_n 3, 1) := by decide +kernel
theorem dX1_areAlike_23 : decode cX1_areAlike 23 = .ok (.iload_n 2, 1) := by decide +kernel
theorem dX1_areAlike_24 : decode cX1_areAlike 24 = .ok (.invokevirtual 125, 3) := by decide +kernel
theorem dX1_areAlike_27 : decode cX1_areAlike 27 = .ok (.if_icmp .eq 5, 3) := by decide +kernel
theorem dX1_areAlike_30 : decode cX1_areAlike 30 = .ok (.iconst 0, 1) := by decide +kernel
theorem dX1_areAlike_31 : decode cX1_areAlike 31 = .ok (.ireturn, 1) := by decide +kernel
theorem dX1_areAlike_32 : decode cX1_areAlike 32 = .ok (.aload_n 3, 1) := by decide +kernel
theorem dX1_areAlike_33 : decode cX1_areAlike 33 = .ok (.getfield 113, 3) := by decide +kernel
theorem dX1_areAlike_36 : decode cX1_areAlike 36 = .ok (.astore_n 3, 1) := by decide +kernel
theorem dX1_areAlike_37 : decode cX1_areAlike 37 = .ok (.goto (-24), 3) := by decide +kernel
theorem dX1_areAlike_40 : decode cX1_areAlike 40 = .ok (.iconst 1, 1) := by decide +kernel
theorem dX1_areAlike_41 : decode cX1_areAlike 41 = .ok (.ireturn, 1) := by decide +kernel
theorem dX1_signs_0 : decode cX1_signs 0 = .ok (.aload_n 0, 1) := by decide +kernel
theorem dX1_signs_1 : decode cX1_signs 1 = .ok (.getfield 15, 3) := by decide +kernel
theorem dX1_signs_4 : decode cX1_signs 4 = .ok (.ireturn, 1) := by decide +kernel
set_option maxRecDepth 20000 in
theorem ggX1_authorOf_X1_findByNumber : GoodIn wsX1_authorOf wsX1_findByNumber := goodIn_ca (goodIn_r _ [5, 6, 7, 8, 9, 18, 19, 20, 21, 22, 23, 24, 25, 26] (by decide +kernel) (by decide +kernel)) (goodIn_sub (fun _ h => List.mem_cons_of_mem _ (List.mem_append_right _ h)) (by decide +kernel))
set_option maxRecDepth 20000 in
theorem gX1_authorOf_X1_findByNumber : GoodIn wsX1_authorOf (wsV RX1 87 RX1 yX1_findByNumber wsX1_findByNumber) := goodIn_app (goodIn_of _ (by decide +kernel)) ggX1_authorOf_X1_findByNumber
theorem dX1_authorOf_0 : decode cX1_authorOf 0 = .ok (.aload_n 0, 1) := by decide +kernel
theorem dX1_authorOf_1 : decode cX1_authorOf 1 = .ok (.iload_n 1, 1) := by decide +kernel
theorem dX1_authorOf_2 : decode cX1_authorOf 2 = .ok (.invokevirtual 87, 3) := by decide +kernel
theorem dX1_authorOf_5 : decode cX1_authorOf 5 = .ok (.getfield 128, 3) := by decide +kernel
theorem dX1_authorOf_8 : decode cX1_authorOf 8 = .ok (.ireturn, 1) := by decide +kernel
set_option maxRecDepth 20000 in
theorem ggX1_behind_X1_findByNumber : GoodIn wsX1_behind wsX1_findByNumber := goodIn_ca (goodIn_r _ [5, 6, 7, 8, 9, 18, 19, 20, 21, 22, 23, 24, 25, 26] (by decide +kernel) (by decide +kernel)) (goodIn_sub (fun _ h => List.mem_cons_of_mem _ (List.mem_append_right _ h)) (by decide +kernel))
set_option maxRecDepth 20000 in
theorem gX1_behind_X1_findByNumber : GoodIn wsX1_behind (wsV RX1 87 RX1 yX1_findByNumber wsX1_findByNumber) := goodIn_app (goodIn_of _ (by decide +kernel)) ggX1_behind_X1_findByNumber
theorem dX1_behind_0 : decode cX1_behind 0 = .ok (.aload_n 0, 1) := by decide +kernel
theorem dX1_behind_1 : decode cX1_behind 1 = .ok (.iload_n 1, 1) := by decide +kernel
theorem dX1_behind_2 : decode cX1_behind 2 = .ok (.invokevirtual 87, 3) := by decide +kernel
theorem dX1_behind_5 : decode cX1_behind 5 = .ok (.getfield 131, 3) := by decide +kernel
theorem dX1_behind_8 : decode cX1_behind 8 = .ok (.astore_n 2, 1) := by decide +kernel
theorem dX1_behind_9 : decode cX1_behind 9 = .ok (.aload_n 2, 1) := by decide +kernel
theorem dX1_behind_10 : decode cX1_behind 10 = .ok (.ifnonnull 7, 3) := by decide +kernel
theorem dX1_behind_13 : decode cX1_behind 13 = .ok (.iconst (-1), 1) := by decide +kernel
theorem dX1_behind_14 : decode cX1_behind 14 = .ok (.goto 7, 3) := by decide +kernel
theorem dX1_behind_17 : decode cX1_behind 17 = .ok (.aload_n 2, 1) := by decide +kernel
theorem dX1_behind_18 : decode cX1_behind 18 = .ok (.getfield 80, 3) := by decide +kernel
theorem dX1_behind_21 : decode cX1_behind 21 = .ok (.ireturn, 1) := by decide +kernel
set_option maxRecDepth 20000 in
theorem ggX1_clock_X1_checkAuthor : GoodIn wsX1_clock wsX1_checkAuthor := goodIn_ca (goodIn_r _ [5, 6, 7, 4, 8, 9, 10] (by decide +kernel) (by decide +kernel)) (goodIn_sub (fun _ h => List.mem_cons_of_mem _ (List.mem_append_right _ h)) (by decide +kernel))
set_option maxRecDepth 20000 in
theorem gX1_clock_X1_checkAuthor : GoodIn wsX1_clock (va_wsS RX1 45 yX1_checkAuthor wsX1_checkAuthor) := goodIn_app (goodIn_of _ (by decide +kernel)) ggX1_clock_X1_checkAuthor
theorem dX1_clock_0 : decode cX1_clock 0 = .ok (.iload_n 1, 1) := by decide +kernel
theorem dX1_clock_1 : decode cX1_clock 1 = .ok (.invokestatic 45, 3) := by decide +kernel
theorem dX1_clock_4 : decode cX1_clock 4 = .ok (.aload_n 0, 1) := by decide +kernel
theorem dX1_clock_5 : decode cX1_clock 5 = .ok (.getfield 23, 3) := by decide +kernel
theorem dX1_clock_8 : decode cX1_clock 8 = .ok (.iload_n 1, 1) := by decide +kernel
theorem dX1_clock_9 : decode cX1_clock 9 = .ok (.iaload, 1) := by decide +kernel
theorem dX1_clock_10 : decode cX1_clock 10 = .ok (.ireturn, 1) := by decide +kernel
set_option maxRecDepth 20000 in
theorem ggX1_print_X1_checkAuthor : GoodIn wsX1_print wsX1_checkAuthor := goodIn_ca (goodIn_r _ [8, 9, 10, 7, 11, 12, 13] (by decide +kernel) (by decide +kernel)) (goodIn_sub (fun _ h => List.mem_cons_of_mem _ (List.mem_append_right _ h)) (by decide +kernel))
set_option maxRecDepth 20000 in
theorem gX1_print_X1_checkAuthor : GoodIn wsX1_print (va_wsS RX1 45 yX1_checkAuthor wsX1_checkAuthor) := goodIn_app (goodIn_of _ (by decide +kernel)) ggX1_print_X1_checkAuthor
set_option maxRecDepth 20000 in
theorem ggX1_print_X1_countAheadOf : GoodIn wsX1_print wsX1_countAheadOf := goodIn_r _ [17, 18, 19, 20, 21, 22, 23, 24, 25, 26, 27, 28, 33, 34, 35, 36, 37, 38, 39, 40, 41, 42, 43, 44, 45, 46, 47, 48, 49] (by decide +kernel) (by decide +kernel)
set_option maxRecDepth 20000 in
theorem gX1_print_X1_countAheadOf : GoodIn wsX1_print (wsV RX1 97 RX1 yX1_countAheadOf wsX1_countAheadOf) := goodIn_app (goodIn_of _ (by decide +kernel)) ggX1_print_X1_countAheadOf
set_option maxRecDepth 20000 in
theorem ggX1_print_X1_countWrittenBy : GoodIn wsX1_print wsX1_countWrittenBy := goodIn_r _ [32, 18, 19, 20, 21, 22, 23, 24, 25, 26, 27, 28, 33, 34, 35, 36, 37, 38, 39, 40, 41, 42, 43, 44, 45, 46, 47, 48, 49] (by decide +kernel) (by decide +kernel)
set_option maxRecDepth 20000 in
theorem gX1_print_X1_countWrittenBy : GoodIn wsX1_print (wsV RX1 138 RX1 yX1_countWrittenBy wsX1_countWrittenBy) := goodIn_app (goodIn_of _ (by decide +kernel)) ggX1_print_X1_countWrittenBy
theorem dX1_print_0 : decode cX1_print 0 = .ok (.iload_n 1, 1) := by decide +kernel
theorem dX1_print_1 : decode cX1_print 1 = .ok (.invokestatic 45, 3) := by decide +kernel
theorem dX1_print_4 : decode cX1_print 4 = .ok (.aload_n 0, 1) := by decide +kernel
theorem dX1_print_5 : decode cX1_print 5 = .ok (.iload_n 1, 1) := by decide +kernel
theorem dX1_print_6 : decode cX1_print 6 = .ok (.aconst_null, 1) := by decide +kernel
theorem dX1_print_7 : decode cX1_print 7 = .ok (.invokevirtual 97, 3) := by decide +kernel
theorem dX1_print_10 : decode cX1_print 10 = .ok (.ifCond .ne 13, 3) := by decide +kernel
theorem dX1_print_13 : decode cX1_print 13 = .ok (.new 64, 3) := by decide +kernel
theorem dX1_print_16 : decode cX1_print 16 = .ok (.dup, 1) := by decide +kernel
theorem dX1_print_17 : decode cX1_print 17 = .ok (.ldc 134, 2) := by decide +kernel
theorem dX1_print_19 : decode cX1_print 19 = .ok (.invokespecial 68, 3) := by decide +kernel
theorem dX1_print_22 : decode cX1_print 22 = .ok (.athrow, 1) := by decide +kernel
theorem dX1_print_23 : decode cX1_print 23 = .ok (.aload_n 0, 1) := by decide +kernel
theorem dX1_print_24 : decode cX1_print 24 = .ok (.getfield 32, 3) := by decide +kernel
theorem dX1_print_27 : decode cX1_print 27 = .ok (.bipush 20, 2) := by decide +kernel
theorem dX1_print_29 : decode cX1_print 29 = .ok (.if_icmp .lt 13, 3) := by decide +kernel
theorem dX1_print_32 : decode cX1_print 32 = .ok (.new 64, 3) := by decide +kernel
theorem dX1_print_35 : decode cX1_print 35 = .ok (.dup, 1) := by decide +kernel
theorem dX1_print_36 : decode cX1_print 36 = .ok (.ldc 136, 2) := by decide +kernel
theorem dX1_print_38 : decode cX1_print 38 = .ok (.invokespecial 68, 3) := by decide +kernel
theorem dX1_print_41 : decode cX1_print 41 = .ok (.athrow, 1) := by decide +kernel
theorem dX1_print_42 : decode cX1_print 42 = .ok (.aload_n 0, 1) := by decide +kernel
theorem dX1_print_43 : decode cX1_print 43 = .ok (.getfield 29, 3) := by decide +kernel
theorem dX1_print_46 : decode cX1_print 46 = .ok (.aload_n 0, 1) := by decide +kernel
theorem dX1_print_47 : decode cX1_print 47 = .ok (.getfield 32, 3) := by decide +kernel
theorem dX1_print_50 : decode cX1_print 50 = .ok (.aaload, 1) := by decide +kernel
theorem dX1_print_51 : decode cX1_print 51 = .ok (.astore_n 2, 1) := by decide +kernel
theorem dX1_print_52 : decode cX1_print 52 = .ok (.iconst 0, 1) := by decide +kernel
theorem dX1_print_53 : decode cX1_print 53 = .ok (.istore_n 3, 1) := by decide +kernel
theorem dX1_print_54 : decode cX1_print 54 = .ok (.iload_n 3, 1) := by decide +kernel
theorem dX1_print_55 : decode cX1_print 55 = .ok (.iconst 4, 1) := by decide +kernel
theorem dX1_print_56 : decode cX1_print 56 = .ok (.if_icmp .ge 18, 3) := by decide +kernel
theorem dX1_print_59 : decode cX1_print 59 = .ok (.aload_n 2, 1) := by decide +kernel
theorem dX1_print_60 : decode cX1_print 60 = .ok (.iload_n 3, 1) := by decide +kernel
theorem dX1_print_61 : decode cX1_print 61 = .ok (.aload_n 0, 1) := by decide +kernel
theorem dX1_print_62 : decode cX1_print 62 = .ok (.iload_n 3, 1) := by decide +kernel
theorem dX1_print_63 : decode cX1_print 63 = .ok (.iload_n 1, 1) := by decide +kernel
theorem dX1_print_64 : decode cX1_print 64 = .ok (.invokevirtual 138, 3) := by decide +kernel
theorem dX1_print_67 : decode cX1_print 67 = .ok (.iastore, 1) := by decide +kernel
theorem dX1_print_68 : decode cX1_print 68 = .ok (.iinc 3 1, 3) := by decide +kernel
theorem dX1_print_71 : decode cX1_print 71 = .ok (.goto (-17), 3) := by decide +kernel
theorem dX1_print_74 : decode cX1_print 74 = .ok (.aload_n 0, 1) := by decide +kernel
theorem dX1_print_75 : decode cX1_print 75 = .ok (.dup, 1) := by decide +kernel
theorem dX1_print_76 : decode cX1_print 76 = .ok (.getfield 32, 3) := by decide +kernel
theorem dX1_print_79 : decode cX1_print 79 = .ok (.iconst 1, 1) := by decide +kernel
theorem dX1_print_80 : decode cX1_print 80 = .ok (.iadd, 1) := by decide +kernel
theorem dX1_print_81 : decode cX1_print 81 = .ok (.putfield 32, 3) := by decide +kernel
theorem dX1_print_84 : decode cX1_print 84 = .ok (.aload_n 0, 1) := by decide +kernel
theorem dX1_print_85 : decode cX1_print 85 = .ok (.getfield 32, 3) := by decide +kernel
theorem dX1_print_88 : decode cX1_print 88 = .ok (.iconst 1, 1) := by decide +kernel
theorem dX1_print_89 : decode cX1_print 89 = .ok (.isub, 1) := by decide +kernel
theorem dX1_print_90 : decode cX1_print 90 = .ok (.ireturn, 1) := by decide +kernel
set_option maxRecDepth 20000 in
theorem ggX1_printed_X1_checkEdition : GoodIn wsX1_printed wsX1_checkEdition := goodIn_ca (goodIn_r _ [6, 7, 8, 9, 18, 19, 20, 21, 22, 23, 24, 25, 26] (by decide +kernel) (by decide +kernel)) (goodIn_sub (fun _ h => List.mem_cons_of_mem _ (List.mem_append_left _ (List.mem_append_right _ h))) (by decide +kernel))
set_option maxRecDepth 20000 in
theorem gX1_printed_X1_checkEdition : GoodIn wsX1_printed (wsV RX1 141 RX1 yX1_checkEdition wsX1_checkEdition) := goodIn_app (goodIn_of _ (by decide +kernel)) ggX1_printed_X1_checkEdition
set_option maxRecDepth 20000 in
theorem ggX1_printed_X1_checkAuthor : GoodIn wsX1_printed wsX1_checkAuthor := goodIn_ca (goodIn_r _ [12, 13, 14, 5, 15, 16, 17] (by decide +kernel) (by decide +kernel)) (goodIn_sub (fun _ h => List.mem_cons_of_mem _ (List.mem_append_right _ h)) (by decide +kernel))
set_option maxRecDepth 20000 in
theorem gX1_printed_X1_checkAuthor : GoodIn wsX1_printed (va_wsS RX1 45 yX1_checkAuthor wsX1_checkAuthor) := goodIn_app (goodIn_of _ (by decide +kernel)) ggX1_printed_X1_checkAuthor
theorem dX1_printed_0 : decode cX1_printed 0 = .ok (.aload_n 0, 1) := by decide +kernel
theorem dX1_printed_1 : decode cX1_printed 1 = .ok (.iload_n 1, 1) := by decide +kernel
theorem dX1_printed_2 : decode cX1_printed 2 = .ok (.invokevirtual 141, 3) := by decide +kernel
theorem dX1_printed_5 : decode cX1_printed 5 = .ok (.iload_n 2, 1) := by decide +kernel
theorem dX1_printed_6 : decode cX1_printed 6 = .ok (.invokestatic 45, 3) := by decide +kernel
theorem dX1_printed_9 : decode cX1_printed 9 = .ok (.aload_n 0, 1) := by decide +kernel
theorem dX1_printed_10 : decode cX1_printed 10 = .ok (.getfield 29, 3) := by decide +kernel
theorem dX1_printed_13 : decode cX1_printed 13 = .ok (.iload_n 1, 1) := by decide +kernel
theorem dX1_printed_14 : decode cX1_printed 14 = .ok (.aaload, 1) := by decide +kernel
theorem dX1_printed_15 : decode cX1_printed 15 = .ok (.iload_n 2, 1) := by decide +kernel
theorem dX1_printed_16 : decode cX1_printed 16 = .ok (.iaload, 1) := by decide +kernel
theorem dX1_printed_17 : decode cX1_printed 17 = .ok (.ireturn, 1) := by decide +kernel
set_option maxRecDepth 20000 in
theorem ggX1_setFloor_X1_checkRange : GoodIn wsX1_setFloor wsX1_checkRange := goodIn_ca (goodIn_r _ [5, 6, 7] (by decide +kernel) (by decide +kernel)) (goodIn_sub (fun _ h => List.mem_cons_of_mem _ (List.mem_append_right _ h)) (by decide +kernel))
set_option maxRecDepth 20000 in
theorem gX1_setFloor_X1_checkRange : GoodIn wsX1_setFloor (va_wsS RX1 49 yX1_checkRange wsX1_checkRange) := goodIn_app (goodIn_of _ (by decide +kernel)) ggX1_setFloor_X1_checkRange
theorem dX1_setFloor_0 : decode cX1_setFloor 0 = .ok (.iload_n 1, 1) := by decide +kernel
theorem dX1_setFloor_1 : decode cX1_setFloor 1 = .ok (.iconst 0, 1) := by decide +kernel
theorem dX1_setFloor_2 : decode cX1_setFloor 2 = .ok (.bipush 25, 2) := by decide +kernel
theorem dX1_setFloor_4 : decode cX1_setFloor 4 = .ok (.invokestatic 49, 3) := by decide +kernel
theorem dX1_setFloor_7 : decode cX1_setFloor 7 = .ok (.aload_n 0, 1) := by decide +kernel
theorem dX1_setFloor_8 : decode cX1_setFloor 8 = .ok (.getfield 35, 3) := by decide +kernel
theorem dX1_setFloor_11 : decode cX1_setFloor 11 = .ok (.istore_n 2, 1) := by decide +kernel
theorem dX1_setFloor_12 : decode cX1_setFloor 12 = .ok (.aload_n 0, 1) := by decide +kernel
theorem dX1_setFloor_13 : decode cX1_setFloor 13 = .ok (.iload_n 1, 1) := by decide +kernel
theorem dX1_setFloor_14 : decode cX1_setFloor 14 = .ok (.putfield 35, 3) := by decide +kernel
theorem dX1_setFloor_17 : decode cX1_setFloor 17 = .ok (.iload_n 2, 1) := by decide +kernel
theorem dX1_setFloor_18 : decode cX1_setFloor 18 = .ok (.ireturn, 1) := by decide +kernel
set_option maxRecDepth 20000 in
theorem ggX1_advance_X1_checkAuthor : GoodIn wsX1_advance wsX1_checkAuthor := goodIn_ca (goodIn_r _ [6, 7, 8, 5, 9, 10, 11] (by decide +kernel) (by decide +kernel)) (goodIn_sub (fun _ h => List.mem_cons_of_mem _ (List.mem_append_right _ h)) (by decide +kernel))
set_option maxRecDepth 20000 in
theorem gX1_advance_X1_checkAuthor : GoodIn wsX1_advance (va_wsS RX1 45 yX1_checkAuthor wsX1_checkAuthor) := goodIn_app (goodIn_of _ (by decide +kernel)) ggX1_advance_X1_checkAuthor
set_option maxRecDepth 20000 in
theorem ggX1_advance_X1_checkRange : GoodIn wsX1_advance wsX1_checkRange := goodIn_ca (goodIn_r _ [9, 10, 11] (by decide +kernel) (by decide +kernel)) (goodIn_sub (fun _ h => List.mem_cons_of_mem _ (List.mem_append_right _ h)) (by decide +kernel))
set_option maxRecDepth 20000 in
theorem gX1_advance_X1_checkRange : GoodIn wsX1_advance (va_wsS RX1 49 yX1_checkRange wsX1_checkRange) := goodIn_app (goodIn_of _ (by decide +kernel)) ggX1_advance_X1_checkRange
theorem dX1_advance_0 : decode cX1_advance 0 = .ok (.iload_n 1, 1) := by decide +kernel
theorem dX1_advance_1 : decode cX1_advance 1 = .ok (.invokestatic 45, 3) := by decide +kernel
theorem dX1_advance_4 : decode cX1_advance 4 = .ok (.iload_n 2, 1) := by decide +kernel
theorem dX1_advance_5 : decode cX1_advance 5 = .ok (.iconst 1, 1) := by decide +kernel
theorem dX1_advance_6 : decode cX1_advance 6 = .ok (.ldc 144, 2) := by decide +kernel
theorem dX1_advance_8 : decode cX1_advance 8 = .ok (.invokestatic 49, 3) := by decide +kernel
theorem dX1_advance_11 : decode cX1_advance 11 = .ok (.aload_n 0, 1) := by decide +kernel
theorem dX1_advance_12 : decode cX1_advance 12 = .ok (.getfield 38, 3) := by decide +kernel
theorem dX1_advance_15 : decode cX1_advance 15 = .ok (.iload_n 1, 1) := by decide +kernel
theorem dX1_advance_16 : decode cX1_advance 16 = .ok (.dup2, 1) := by decide +kernel
theorem dX1_advance_17 : decode cX1_advance 17 = .ok (.iaload, 1) := by decide +kernel
theorem dX1_advance_18 : decode cX1_advance 18 = .ok (.iload_n 2, 1) := by decide +kernel
theorem dX1_advance_19 : decode cX1_advance 19 = .ok (.iadd, 1) := by decide +kernel
theorem dX1_advance_20 : decode cX1_advance 20 = .ok (.iastore, 1) := by decide +kernel
theorem dX1_advance_21 : decode cX1_advance 21 = .ok (.aload_n 0, 1) := by decide +kernel
theorem dX1_advance_22 : decode cX1_advance 22 = .ok (.getfield 38, 3) := by decide +kernel
theorem dX1_advance_25 : decode cX1_advance 25 = .ok (.iload_n 1, 1) := by decide +kernel
theorem dX1_advance_26 : decode cX1_advance 26 = .ok (.iaload, 1) := by decide +kernel
theorem dX1_advance_27 : decode cX1_advance 27 = .ok (.ireturn, 1) := by decide +kernel
set_option maxRecDepth 20000 in
theorem ggX1_sell_X1_checkEdition : GoodIn wsX1_sell wsX1_checkEdition := goodIn_ca (goodIn_r _ [7, 8, 9, 10, 31, 32, 33, 34, 35, 36, 37, 38, 39] (by decide +kernel) (by decide +kernel)) (goodIn_sub (fun _ h => List.mem_cons_of_mem _ (List.mem_append_left _ (List.mem_append_right _ h))) (by decide +kernel))
set_option maxRecDepth 20000 in
theorem gX1_sell_X1_checkEdition : GoodIn wsX1_sell (wsV RX1 141 RX1 yX1_checkEdition wsX1_checkEdition) := goodIn_app (goodIn_of _ (by decide +kernel)) ggX1_sell_X1_checkEdition
set_option maxRecDepth 20000 in
theorem ggX1_sell_X1_checkRange : GoodIn wsX1_sell wsX1_checkRange := goodIn_ca (goodIn_r _ [13, 14, 15] (by decide +kernel) (by decide +kernel)) (goodIn_sub (fun _ h => List.mem_cons_of_mem _ (List.mem_append_right _ h)) (by decide +kernel))
set_option maxRecDepth 20000 in
theorem gX1_sell_X1_checkRange : GoodIn wsX1_sell (va_wsS RX1 49 yX1_checkRange wsX1_checkRange) := goodIn_app (goodIn_of _ (by decide +kernel)) ggX1_sell_X1_checkRange
set_option maxRecDepth 20000 in
theorem ggX1_sell_X1_shareOf : GoodIn wsX1_sell wsX1_shareOf := goodIn_r _ [19, 20, 31, 32, 33, 34, 35, 36, 37, 38, 39] (by decide +kernel) (by decide +kernel)
set_option maxRecDepth 20000 in
theorem gX1_sell_X1_shareOf : GoodIn wsX1_sell (wsV RX1 146 RX1 yX1_shareOf wsX1_shareOf) := goodIn_app (goodIn_of _ (by decide +kernel)) ggX1_sell_X1_shareOf
set_option maxRecDepth 20000 in
theorem ggX1_sell_X1_credit : GoodIn wsX1_sell wsX1_credit := goodIn_r _ [24, 25, 26, 27, 28, 29, 30, 31, 32, 33, 34, 35, 36, 37, 38, 39] (by decide +kernel) (by decide +kernel)
set_option maxRecDepth 20000 in
theorem gX1_sell_X1_credit : GoodIn wsX1_sell (wsV RX1 150 RX1 yX1_credit wsX1_credit) := goodIn_app (goodIn_of _ (by decide +kernel)) ggX1_sell_X1_credit
theorem dX1_sell_0 : decode cX1_sell 0 = .ok (.aload_n 0, 1) := by decide +kernel
theorem dX1_sell_1 : decode cX1_sell 1 = .ok (.iload_n 1, 1) := by decide +kernel
theorem dX1_sell_2 : decode cX1_sell 2 = .ok (.invokevirtual 141, 3) := by decide +kernel
theorem dX1_sell_5 : decode cX1_sell 5 = .ok (.iload_n 2, 1) := by decide +kernel
theorem dX1_sell_6 : decode cX1_sell 6 = .ok (.iconst 1, 1) := by decide +kernel
theorem dX1_sell_7 : decode cX1_sell 7 = .ok (.ldc 145, 2) := by decide +kernel
theorem dX1_sell_9 : decode cX1_sell 9 = .ok (.invokestatic 49, 3) := by decide +kernel
theorem dX1_sell_12 : decode cX1_sell 12 = .ok (.aload_n 0, 1) := by decide +kernel
theorem dX1_sell_13 : decode cX1_sell 13 = .ok (.getfield 29, 3) := by decide +kernel
theorem dX1_sell_16 : decode cX1_sell 16 = .ok (.iload_n 1, 1) := by decide +kernel
theorem dX1_sell_17 : decode cX1_sell 17 = .ok (.aaload, 1) := by decide +kernel
theorem dX1_sell_18 : decode cX1_sell 18 = .ok (.astore_n 3, 1) := by decide +kernel
theorem dX1_sell_19 : decode cX1_sell 19 = .ok (.iload_n 2, 1) := by decide +kernel
theorem dX1_sell_20 : decode cX1_sell 20 = .ok (.istore 4, 2) := by decide +kernel
theorem dX1_sell_22 : decode cX1_sell 22 = .ok (.iconst 0, 1) := by decide +kernel
theorem dX1_sell_23 : decode cX1_sell 23 = .ok (.istore 5, 2) := by decide +kernel
theorem dX1_sell_25 : decode cX1_sell 25 = .ok (.iload 5, 2) := by decide +kernel
theorem dX1_sell_27 : decode cX1_sell 27 = .ok (.iconst 4, 1) := by decide +kernel
theorem dX1_sell_28 : decode cX1_sell 28 = .ok (.if_icmp .ge 22, 3) := by decide +kernel
theorem dX1_sell_31 : decode cX1_sell 31 = .ok (.iload 4, 2) := by decide +kernel
theorem dX1_sell_33 : decode cX1_sell 33 = .ok (.aload_n 0, 1) := by decide +kernel
theorem dX1_sell_34 : decode cX1_sell 34 = .ok (.iload 5, 2) := by decide +kernel
theorem dX1_sell_36 : decode cX1_sell 36 = .ok (.aload_n 3, 1) := by decide +kernel
theorem dX1_sell_37 : decode cX1_sell 37 = .ok (.iload_n 2, 1) := by decide +kernel
theorem dX1_sell_38 : decode cX1_sell 38 = .ok (.invokevirtual 146, 3) := by decide +kernel
theorem dX1_sell_41 : decode cX1_sell 41 = .ok (.isub, 1) := by decide +kernel
theorem dX1_sell_42 : decode cX1_sell 42 = .ok (.istore 4, 2) := by decide +kernel
theorem dX1_sell_44 : decode cX1_sell 44 = .ok (.iinc 5 1, 3) := by decide +kernel
theorem dX1_sell_47 : decode cX1_sell 47 = .ok (.goto (-22), 3) := by decide +kernel
theorem dX1_sell_50 : decode cX1_sell 50 = .ok (.iconst 0, 1) := by decide +kernel
theorem dX1_sell_51 : decode cX1_sell 51 = .ok (.istore 5, 2) := by decide +kernel
theorem dX1_sell_53 : decode cX1_sell 53 = .ok (.iconst 0, 1) := by decide +kernel
theorem dX1_sell_54 : decode cX1_sell 54 = .ok (.istore 6, 2) := by decide +kernel
theorem dX1_sell_56 : decode cX1_sell 56 = .ok (.iload 6, 2) := by decide +kernel
theorem dX1_sell_58 : decode cX1_sell 58 = .ok (.iconst 4, 1) := by decide +kernel
theorem dX1_sell_59 : decode cX1_sell 59 = .ok (.if_icmp .ge 41, 3) := by decide +kernel
theorem dX1_sell_62 : decode cX1_sell 62 = .ok (.aload_n 3, 1) := by decide +kernel
theorem dX1_sell_63 : decode cX1_sell 63 = .ok (.iload 6, 2) := by decide +kernel
theorem dX1_sell_65 : decode cX1_sell 65 = .ok (.iaload, 1) := by decide +kernel
theorem dX1_sell_66 : decode cX1_sell 66 = .ok (.ifCond .le 28, 3) := by decide +kernel
theorem dX1_sell_69 : decode cX1_sell 69 = .ok (.iload 5, 2) := by decide +kernel
theorem dX1_sell_71 : decode cX1_sell 71 = .ok (.aload_n 0, 1) := by decide +kernel
theorem dX1_sell_72 : decode cX1_sell 72 = .ok (.iload 6, 2) := by decide +kernel
theorem dX1_sell_74 : decode cX1_sell 74 = .ok (.aload_n 0, 1) := by decide +kernel
theorem dX1_sell_75 : decode cX1_sell 75 = .ok (.iload 6, 2) := by decide +kernel
theorem dX1_sell_77 : decode cX1_sell 77 = .ok (.aload_n 3, 1) := by decide +kernel
theorem dX1_sell_78 : decode cX1_sell 78 = .ok (.iload_n 2, 1) := by decide +kernel
theorem dX1_sell_79 : decode cX1_sell 79 = .ok (.invokevirtual 146, 3) := by decide +kernel
theorem dX1_sell_82 : decode cX1_sell 82 = .ok (.iload 4, 2) := by decide +kernel
theorem dX1_sell_84 : decode cX1_sell 84 = .ok (.iadd, 1) := by decide +kernel
theorem dX1_sell_85 : decode cX1_sell 85 = .ok (.invokevirtual 150, 3) := by decide +kernel
theorem dX1_sell_88 : decode cX1_sell 88 = .ok (.iadd, 1) := by decide +kernel
theorem dX1_sell_89 : decode cX1_sell 89 = .ok (.istore 5, 2) := by decide +kernel
theorem dX1_sell_91 : decode cX1_sell 91 = .ok (.iconst 0, 1) := by decide +kernel
theorem dX1_sell_92 : decode cX1_sell 92 = .ok (.istore 4, 2) := by decide +kernel
theorem dX1_sell_94 : decode cX1_sell 94 = .ok (.iinc 6 1, 3) := by decide +kernel
theorem dX1_sell_97 : decode cX1_sell 97 = .ok (.goto (-41), 3) := by decide +kernel
theorem dX1_sell_100 : decode cX1_sell 100 = .ok (.iload 5, 2) := by decide +kernel
theorem dX1_sell_102 : decode cX1_sell 102 = .ok (.ireturn, 1) := by decide +kernel
set_option maxRecDepth 20000 in
theorem ggX1_paid_X1_checkAuthor : GoodIn wsX1_paid wsX1_checkAuthor := goodIn_ca (goodIn_r _ [5, 6, 7, 4, 8, 9, 10] (by decide +kernel) (by decide +kernel)) (goodIn_sub (fun _ h => List.mem_cons_of_mem _ (List.mem_append_right _ h)) (by decide +kernel))
set_option maxRecDepth 20000 in
theorem gX1_paid_X1_checkAuthor : GoodIn wsX1_paid (va_wsS RX1 45 yX1_checkAuthor wsX1_checkAuthor) := goodIn_app (goodIn_of _ (by decide +kernel)) ggX1_paid_X1_checkAuthor
theorem dX1_paid_0 : decode cX1_paid 0 = .ok (.iload_n 1, 1) := by decide +kernel
theorem dX1_paid_1 : decode cX1_paid 1 = .ok (.invokestatic 45, 3) := by decide +kernel
theorem dX1_paid_4 : decode cX1_paid 4 = .ok (.aload_n 0, 1) := by decide +kernel
theorem dX1_paid_5 : decode cX1_paid 5 = .ok (.getfield 41, 3) := by decide +kernel
theorem dX1_paid_8 : decode cX1_paid 8 = .ok (.iload_n 1, 1) := by decide +kernel
theorem dX1_paid_9 : decode cX1_paid 9 = .ok (.laload, 1) := by decide +kernel
theorem dX1_paid_10 : decode cX1_paid 10 = .ok (.lreturn, 1) := by decide +kernel
set_option maxRecDepth 20000 in
theorem ggX1_left_X1_checkAuthor : GoodIn wsX1_left wsX1_checkAuthor := goodIn_ca (goodIn_r _ [5, 6, 7, 4, 8, 9, 10] (by decide +kernel) (by decide +kernel)) (goodIn_sub (fun _ h => List.mem_cons_of_mem _ (List.mem_append_right _ h)) (by decide +kernel))
set_option maxRecDepth 20000 in
theorem gX1_left_X1_checkAuthor : GoodIn wsX1_left (va_wsS RX1 45 yX1_checkAuthor wsX1_checkAuthor) := goodIn_app (goodIn_of _ (by decide +kernel)) ggX1_left_X1_checkAuthor
theorem dX1_left_0 : decode cX1_left 0 = .ok (.iload_n 1, 1) := by decide +kernel
theorem dX1_left_1 : decode cX1_left 1 = .ok (.invokestatic 45, 3) := by decide +kernel
theorem dX1_left_4 : decode cX1_left 4 = .ok (.aload_n 0, 1) := by decide +kernel
theorem dX1_left_5 : decode cX1_left 5 = .ok (.getfield 38, 3) := by decide +kernel
theorem dX1_left_8 : decode cX1_left 8 = .ok (.iload_n 1, 1) := by decide +kernel
theorem dX1_left_9 : decode cX1_left 9 = .ok (.iaload, 1) := by decide +kernel
theorem dX1_left_10 : decode cX1_left 10 = .ok (.ireturn, 1) := by decide +kernel
set_option maxRecDepth 20000 in
theorem ggX1_checkAuthor_X1_checkRange : GoodIn wsX1_checkAuthor wsX1_checkRange := goodIn_ca (goodIn_r _ [4, 5, 6] (by decide +kernel) (by decide +kernel)) (goodIn_sub (fun _ h => List.mem_cons_of_mem _ (List.mem_append_right _ h)) (by decide +kernel))
set_option maxRecDepth 20000 in
theorem gX1_checkAuthor_X1_checkRange : GoodIn wsX1_checkAuthor (va_wsS RX1 49 yX1_checkRange wsX1_checkRange) := goodIn_app (goodIn_of _ (by decide +kernel)) ggX1_checkAuthor_X1_checkRange
theorem dX1_checkAuthor_0 : decode cX1_checkAuthor 0 = .ok (.iload_n 0, 1) := by decide +kernel
theorem dX1_checkAuthor_1 : decode cX1_checkAuthor 1 = .ok (.iconst 0, 1) := by decide +kernel
theorem dX1_checkAuthor_2 : decode cX1_checkAuthor 2 = .ok (.iconst 3, 1) := by decide +kernel
theorem dX1_checkAuthor_3 : decode cX1_checkAuthor 3 = .ok (.invokestatic 49, 3) := by decide +kernel
theorem dX1_checkAuthor_6 : decode cX1_checkAuthor 6 = .ok (.return_, 1) := by decide +kernel
theorem dX1_checkRange_0 : decode cX1_checkRange 0 = .ok (.iload_n 0, 1) := by decide +kernel
theorem dX1_checkRange_1 : decode cX1_checkRange 1 = .ok (.iload_n 1, 1) := by decide +kernel
theorem dX1_checkRange_2 : decode cX1_checkRange 2 = .ok (.if_icmp .lt 8, 3) := by decide +kernel
theorem dX1_checkRange_5 : decode cX1_checkRange 5 = .ok (.iload_n 0, 1) := by decide +kernel
theorem dX1_checkRange_6 : decode cX1_checkRange 6 = .ok (.iload_n 2, 1) := by decide +kernel
theorem dX1_checkRange_7 : decode cX1_checkRange 7 = .ok (.if_icmp .le 13, 3) := by decide +kernel
theorem dX1_checkRange_10 : decode cX1_checkRange 10 = .ok (.new 101, 3) := by decide +kernel
theorem dX1_checkRange_13 : decode cX1_checkRange 13 = .ok (.dup, 1) := by decide +kernel
theorem dX1_checkRange_14 : decode cX1_checkRange 14 = .ok (.ldc 153, 2) := by decide +kernel
theorem dX1_checkRange_16 : decode cX1_checkRange 16 = .ok (.invokespecial 105, 3) := by decide +kernel
theorem dX1_checkRange_19 : decode cX1_checkRange 19 = .ok (.athrow, 1) := by decide +kernel
theorem dX1_checkRange_20 : decode cX1_checkRange 20 = .ok (.return_, 1) := by decide +kernel
theorem dX1_checkEdition_0 : decode cX1_checkEdition 0 = .ok (.iload_n 1, 1) := by decide +kernel
theorem dX1_checkEdition_1 : decode cX1_checkEdition 1 = .ok (.ifCond .lt 11, 3) := by decide +kernel
theorem dX1_checkEdition_4 : decode cX1_checkEdition 4 = .ok (.iload_n 1, 1) := by decide +kernel
theorem dX1_checkEdition_5 : decode cX1_checkEdition 5 = .ok (.aload_n 0, 1) := by decide +kernel
theorem dX1_checkEdition_6 : decode cX1_checkEdition 6 = .ok (.getfield 32, 3) := by decide +kernel
theorem dX1_checkEdition_9 : decode cX1_checkEdition 9 = .ok (.if_icmp .lt 13, 3) := by decide +kernel
theorem dX1_checkEdition_12 : decode cX1_checkEdition 12 = .ok (.new 53, 3) := by decide +kernel
theorem dX1_checkEdition_15 : decode cX1_checkEdition 15 = .ok (.dup, 1) := by decide +kernel
theorem dX1_checkEdition_16 : decode cX1_checkEdition 16 = .ok (.ldc 155, 2) := by decide +kernel
theorem dX1_checkEdition_18 : decode cX1_checkEdition 18 = .ok (.invokespecial 57, 3) := by decide +kernel
theorem dX1_checkEdition_21 : decode cX1_checkEdition 21 = .ok (.athrow, 1) := by decide +kernel
theorem dX1_checkEdition_22 : decode cX1_checkEdition 22 = .ok (.return_, 1) := by decide +kernel
theorem dX1_findByNumber_0 : decode cX1_findByNumber 0 = .ok (.iload_n 1, 1) := by decide +kernel
theorem dX1_findByNumber_1 : decode cX1_findByNumber 1 = .ok (.ifCond .lt 20, 3) := by decide +kernel
theorem dX1_findByNumber_4 : decode cX1_findByNumber 4 = .ok (.iload_n 1, 1) := by decide +kernel
theorem dX1_findByNumber_5 : decode cX1_findByNumber 5 = .ok (.aload_n 0, 1) := by decide +kernel
theorem dX1_findByNumber_6 : decode cX1_findByNumber 6 = .ok (.getfield 15, 3) := by decide +kernel
theorem dX1_findByNumber_9 : decode cX1_findByNumber 9 = .ok (.if_icmp .ge 12, 3) := by decide +kernel
theorem dX1_findByNumber_12 : decode cX1_findByNumber 12 = .ok (.aload_n 0, 1) := by decide +kernel
theorem dX1_findByNumber_13 : decode cX1_findByNumber 13 = .ok (.getfield 11, 3) := by decide +kernel
theorem dX1_findByNumber_16 : decode cX1_findByNumber 16 = .ok (.iload_n 1, 1) := by decide +kernel
theorem dX1_findByNumber_17 : decode cX1_findByNumber 17 = .ok (.aaload, 1) := by decide +kernel
theorem dX1_findByNumber_18 : decode cX1_findByNumber 18 = .ok (.goto 4, 3) := by decide +kernel
theorem dX1_findByNumber_21 : decode cX1_findByNumber 21 = .ok (.aconst_null, 1) := by decide +kernel
theorem dX1_findByNumber_22 : decode cX1_findByNumber 22 = .ok (.astore_n 2, 1) := by decide +kernel
theorem dX1_findByNumber_23 : decode cX1_findByNumber 23 = .ok (.aload_n 2, 1) := by decide +kernel
theorem dX1_findByNumber_24 : decode cX1_findByNumber 24 = .ok (.ifnonnull 13, 3) := by decide +kernel
theorem dX1_findByNumber_27 : decode cX1_findByNumber 27 = .ok (.new 53, 3) := by decide +kernel
theorem dX1_findByNumber_30 : decode cX1_findByNumber 30 = .ok (.dup, 1) := by decide +kernel
theorem dX1_findByNumber_31 : decode cX1_findByNumber 31 = .ok (.ldc 157, 2) := by decide +kernel
theorem dX1_findByNumber_33 : decode cX1_findByNumber 33 = .ok (.invokespecial 57, 3) := by decide +kernel
theorem dX1_findByNumber_36 : decode cX1_findByNumber 36 = .ok (.athrow, 1) := by decide +kernel
theorem dX1_findByNumber_37 : decode cX1_findByNumber 37 = .ok (.aload_n 2, 1) := by decide +kernel
theorem dX1_findByNumber_38 : decode cX1_findByNumber 38 = .ok (.areturn, 1) := by decide +kernel
set_option maxRecDepth 20000 in
theorem ggX1_findAtPlace_X0_isInTextOf : GoodIn wsX1_findAtPlace wsX0_isInTextOf := goodIn_r _ [7, 8, 9, 10, 11, 5, 12, 13, 23, 24, 25, 26, 27, 28, 29, 30] (by decide +kernel) (by decide +kernel)
set_option maxRecDepth 20000 in
theorem gX1_findAtPlace_X0_isInTextOf_n125 : GoodIn wsX1_findAtPlace (wsX0_isInTextOf) := ggX1_findAtPlace_X0_isInTextOf
theorem dX1_findAtPlace_0 : decode cX1_findAtPlace 0 = .ok (.iconst 0, 1) := by decide +kernel
theorem dX1_findAtPlace_1 : decode cX1_findAtPlace 1 = .ok (.istore_n 3, 1) := by decide +kernel
theorem dX1_findAtPlace_2 : decode cX1_findAtPlace 2 = .ok (.aload_n 0, 1) := by decide +kernel
theorem dX1_findAtPlace_3 : decode cX1_findAtPlace 3 = .ok (.getfield 19, 3) := by decide +kernel
theorem dX1_findAtPlace_6 : decode cX1_findAtPlace 6 = .ok (.astore 4, 2) := by decide +kernel
theorem dX1_findAtPlace_8 : decode cX1_findAtPlace 8 = .ok (.aload 4, 2) := by decide +kernel
theorem dX1_findAtPlace_10 : decode cX1_findAtPlace 10 = .ok (.ifnull 33, 3) := by decide +kernel
theorem dX1_findAtPlace_13 : decode cX1_findAtPlace 13 = .ok (.aload 4, 2) := by decide +kernel
theorem dX1_findAtPlace_15 : decode cX1_findAtPlace 15 = .ok (.iload_n 1, 1) := by decide +kernel
theorem dX1_findAtPlace_16 : decode cX1_findAtPlace 16 = .ok (.invokevirtual 125, 3) := by decide +kernel
theorem dX1_findAtPlace_19 : decode cX1_findAtPlace 19 = .ok (.ifCond .eq 14, 3) := by decide +kernel
theorem dX1_findAtPlace_22 : decode cX1_findAtPlace 22 = .ok (.iload_n 3, 1) := by decide +kernel
theorem dX1_findAtPlace_23 : decode cX1_findAtPlace 23 = .ok (.iload_n 2, 1) := by decide +kernel
theorem dX1_findAtPlace_24 : decode cX1_findAtPlace 24 = .ok (.if_icmp .ne 6, 3) := by decide +kernel
theorem dX1_findAtPlace_27 : decode cX1_findAtPlace 27 = .ok (.aload 4, 2) := by decide +kernel
theorem dX1_findAtPlace_29 : decode cX1_findAtPlace 29 = .ok (.areturn, 1) := by decide +kernel
theorem dX1_findAtPlace_30 : decode cX1_findAtPlace 30 = .ok (.iinc 3 1, 3) := by decide +kernel
theorem dX1_findAtPlace_33 : decode cX1_findAtPlace 33 = .ok (.aload 4, 2) := by decide +kernel
theorem dX1_findAtPlace_35 : decode cX1_findAtPlace 35 = .ok (.getfield 113, 3) := by decide +kernel
theorem dX1_findAtPlace_38 : decode cX1_findAtPlace 38 = .ok (.astore 4, 2) := by decide +kernel
theorem dX1_findAtPlace_40 : decode cX1_findAtPlace 40 = .ok (.goto (-32), 3) := by decide +kernel
theorem dX1_findAtPlace_43 : decode cX1_findAtPlace 43 = .ok (.new 53, 3) := by decide +kernel
theorem dX1_findAtPlace_46 : decode cX1_findAtPlace 46 = .ok (.dup, 1) := by decide +kernel
theorem dX1_findAtPlace_47 : decode cX1_findAtPlace 47 = .ok (.ldc 55, 2) := by decide +kernel
theorem dX1_findAtPlace_49 : decode cX1_findAtPlace 49 = .ok (.invokespecial 57, 3) := by decide +kernel
theorem dX1_findAtPlace_52 : decode cX1_findAtPlace 52 = .ok (.athrow, 1) := by decide +kernel
theorem dX1_nextStamp_0 : decode cX1_nextStamp 0 = .ok (.aload_n 0, 1) := by decide +kernel
theorem dX1_nextStamp_1 : decode cX1_nextStamp 1 = .ok (.getfield 23, 3) := by decide +kernel
theorem dX1_nextStamp_4 : decode cX1_nextStamp 4 = .ok (.iload_n 1, 1) := by decide +kernel
theorem dX1_nextStamp_5 : decode cX1_nextStamp 5 = .ok (.dup2, 1) := by decide +kernel
theorem dX1_nextStamp_6 : decode cX1_nextStamp 6 = .ok (.iaload, 1) := by decide +kernel
theorem dX1_nextStamp_7 : decode cX1_nextStamp 7 = .ok (.iconst 1, 1) := by decide +kernel
theorem dX1_nextStamp_8 : decode cX1_nextStamp 8 = .ok (.iadd, 1) := by decide +kernel
theorem dX1_nextStamp_9 : decode cX1_nextStamp 9 = .ok (.iastore, 1) := by decide +kernel
theorem dX1_nextStamp_10 : decode cX1_nextStamp 10 = .ok (.aload_n 0, 1) := by decide +kernel
theorem dX1_nextStamp_11 : decode cX1_nextStamp 11 = .ok (.getfield 23, 3) := by decide +kernel
theorem dX1_nextStamp_14 : decode cX1_nextStamp 14 = .ok (.iload_n 1, 1) := by decide +kernel
theorem dX1_nextStamp_15 : decode cX1_nextStamp 15 = .ok (.iaload, 1) := by decide +kernel
theorem dX1_nextStamp_16 : decode cX1_nextStamp 16 = .ok (.iconst 4, 1) := by decide +kernel
theorem dX1_nextStamp_17 : decode cX1_nextStamp 17 = .ok (.imul, 1) := by decide +kernel
theorem dX1_nextStamp_18 : decode cX1_nextStamp 18 = .ok (.iload_n 1, 1) := by decide +kernel
theorem dX1_nextStamp_19 : decode cX1_nextStamp 19 = .ok (.iadd, 1) := by decide +kernel
theorem dX1_nextStamp_20 : decode cX1_nextStamp 20 = .ok (.ireturn, 1) := by decide +kernel
theorem dX1_putInOrder_0 : decode cX1_putInOrder 0 = .ok (.aload_n 1, 1) := by decide +kernel
theorem dX1_putInOrder_1 : decode cX1_putInOrder 1 = .ok (.getfield 131, 3) := by decide +kernel
theorem dX1_putInOrder_4 : decode cX1_putInOrder 4 = .ok (.astore_n 2, 1) := by decide +kernel
theorem dX1_putInOrder_5 : decode cX1_putInOrder 5 = .ok (.aload_n 2, 1) := by decide +kernel
theorem dX1_putInOrder_6 : decode cX1_putInOrder 6 = .ok (.ifnonnull 10, 3) := by decide +kernel
theorem dX1_putInOrder_9 : decode cX1_putInOrder 9 = .ok (.aload_n 0, 1) := by decide +kernel
theorem dX1_putInOrder_10 : decode cX1_putInOrder 10 = .ok (.getfield 19, 3) := by decide +kernel
theorem dX1_putInOrder_13 : decode cX1_putInOrder 13 = .ok (.goto 7, 3) := by decide +kernel
theorem dX1_putInOrder_16 : decode cX1_putInOrder 16 = .ok (.aload_n 2, 1) := by decide +kernel
theorem dX1_putInOrder_17 : decode cX1_putInOrder 17 = .ok (.getfield 113, 3) := by decide +kernel
theorem dX1_putInOrder_20 : decode cX1_putInOrder 20 = .ok (.astore_n 3, 1) := by decide +kernel
theorem dX1_putInOrder_21 : decode cX1_putInOrder 21 = .ok (.aload_n 3, 1) := by decide +kernel
theorem dX1_putInOrder_22 : decode cX1_putInOrder 22 = .ok (.ifnull 24, 3) := by decide +kernel
theorem dX1_putInOrder_25 : decode cX1_putInOrder 25 = .ok (.aload_n 3, 1) := by decide +kernel
theorem dX1_putInOrder_26 : decode cX1_putInOrder 26 = .ok (.getfield 159, 3) := by decide +kernel
theorem dX1_putInOrder_29 : decode cX1_putInOrder 29 = .ok (.aload_n 1, 1) := by decide +kernel
theorem dX1_putInOrder_30 : decode cX1_putInOrder 30 = .ok (.getfield 159, 3) := by decide +kernel
theorem dX1_putInOrder_33 : decode cX1_putInOrder 33 = .ok (.if_icmp .le 13, 3) := by decide +kernel
theorem dX1_putInOrder_36 : decode cX1_putInOrder 36 = .ok (.aload_n 3, 1) := by decide +kernel
theorem dX1_putInOrder_37 : decode cX1_putInOrder 37 = .ok (.astore_n 2, 1) := by decide +kernel
theorem dX1_putInOrder_38 : decode cX1_putInOrder 38 = .ok (.aload_n 3, 1) := by decide +kernel
theorem dX1_putInOrder_39 : decode cX1_putInOrder 39 = .ok (.getfield 113, 3) := by decide +kernel
theorem dX1_putInOrder_42 : decode cX1_putInOrder 42 = .ok (.astore_n 3, 1) := by decide +kernel
theorem dX1_putInOrder_43 : decode cX1_putInOrder 43 = .ok (.goto (-22), 3) := by decide +kernel
theorem dX1_putInOrder_46 : decode cX1_putInOrder 46 = .ok (.aload_n 1, 1) := by decide +kernel
theorem dX1_putInOrder_47 : decode cX1_putInOrder 47 = .ok (.aload_n 3, 1) := by decide +kernel
theorem dX1_putInOrder_48 : decode cX1_putInOrder 48 = .ok (.putfield 113, 3) := by decide +kernel
theorem dX1_putInOrder_51 : decode cX1_putInOrder 51 = .ok (.aload_n 2, 1) := by decide +kernel
theorem dX1_putInOrder_52 : decode cX1_putInOrder 52 = .ok (.ifnonnull 11, 3) := by decide +kernel
theorem dX1_putInOrder_55 : decode cX1_putInOrder 55 = .ok (.aload_n 0, 1) := by decide +kernel
theorem dX1_putInOrder_56 : decode cX1_putInOrder 56 = .ok (.aload_n 1, 1) := by decide +kernel
theorem dX1_putInOrder_57 : decode cX1_putInOrder 57 = .ok (.putfield 19, 3) := by decide +kernel
theorem dX1_putInOrder_60 : decode cX1_putInOrder 60 = .ok (.goto 8, 3) := by decide +kernel
theorem dX1_putInOrder_63 : decode cX1_putInOrder 63 = .ok (.aload_n 2, 1) := by decide +kernel
theorem dX1_putInOrder_64 : decode cX1_putInOrder 64 = .ok (.aload_n 1, 1) := by decide +kernel
theorem dX1_putInOrder_65 : decode cX1_putInOrder 65 = .ok (.putfield 113, 3) := by decide +kernel
theorem dX1_putInOrder_68 : decode cX1_putInOrder 68 = .ok (.return_, 1) := by decide +kernel
set_option maxRecDepth 20000 in
theorem ggX1_countAheadOf_X0_isInTextOf : GoodIn wsX1_countAheadOf wsX0_isInTextOf := goodIn_r _ [5, 6, 7, 8, 9, 3, 10, 11, 21, 22, 23, 24, 25, 26, 27, 28] (by decide +kernel) (by decide +kernel)
set_option maxRecDepth 20000 in
theorem gX1_countAheadOf_X0_isInTextOf_n125 : GoodIn wsX1_countAheadOf (wsX0_isInTextOf) := ggX1_countAheadOf_X0_isInTextOf
theorem dX1_countAheadOf_0 : decode cX1_countAheadOf 0 = .ok (.iconst 0, 1) := by decide +kernel
theorem dX1_countAheadOf_1 : decode cX1_countAheadOf 1 = .ok (.istore_n 3, 1) := by decide +kernel
theorem dX1_countAheadOf_2 : decode cX1_countAheadOf 2 = .ok (.aload_n 0, 1) := by decide +kernel
theorem dX1_countAheadOf_3 : decode cX1_countAheadOf 3 = .ok (.getfield 19, 3) := by decide +kernel
theorem dX1_countAheadOf_6 : decode cX1_countAheadOf 6 = .ok (.astore 4, 2) := by decide +kernel
theorem dX1_countAheadOf_8 : decode cX1_countAheadOf 8 = .ok (.aload 4, 2) := by decide +kernel
theorem dX1_countAheadOf_10 : decode cX1_countAheadOf 10 = .ok (.ifnull 31, 3) := by decide +kernel
theorem dX1_countAheadOf_13 : decode cX1_countAheadOf 13 = .ok (.aload 4, 2) := by decide +kernel
theorem dX1_countAheadOf_15 : decode cX1_countAheadOf 15 = .ok (.aload_n 2, 1) := by decide +kernel
theorem dX1_countAheadOf_16 : decode cX1_countAheadOf 16 = .ok (.if_acmp .eq 25, 3) := by decide +kernel
theorem dX1_countAheadOf_19 : decode cX1_countAheadOf 19 = .ok (.aload 4, 2) := by decide +kernel
theorem dX1_countAheadOf_21 : decode cX1_countAheadOf 21 = .ok (.iload_n 1, 1) := by decide +kernel
theorem dX1_countAheadOf_22 : decode cX1_countAheadOf 22 = .ok (.invokevirtual 125, 3) := by decide +kernel
theorem dX1_countAheadOf_25 : decode cX1_countAheadOf 25 = .ok (.ifCond .eq 6, 3) := by decide +kernel
theorem dX1_countAheadOf_28 : decode cX1_countAheadOf 28 = .ok (.iinc 3 1, 3) := by decide +kernel
theorem dX1_countAheadOf_31 : decode cX1_countAheadOf 31 = .ok (.aload 4, 2) := by decide +kernel
theorem dX1_countAheadOf_33 : decode cX1_countAheadOf 33 = .ok (.getfield 113, 3) := by decide +kernel
theorem dX1_countAheadOf_36 : decode cX1_countAheadOf 36 = .ok (.astore 4, 2) := by decide +kernel
theorem dX1_countAheadOf_38 : decode cX1_countAheadOf 38 = .ok (.goto (-30), 3) := by decide +kernel
theorem dX1_countAheadOf_41 : decode cX1_countAheadOf 41 = .ok (.iload_n 3, 1) := by decide +kernel
theorem dX1_countAheadOf_42 : decode cX1_countAheadOf 42 = .ok (.ireturn, 1) := by decide +kernel
set_option maxRecDepth 20000 in
theorem ggX1_countWrittenBy_X0_isInTextOf : GoodIn wsX1_countWrittenBy wsX0_isInTextOf := goodIn_r _ [5, 6, 7, 8, 9, 3, 10, 11, 21, 22, 23, 24, 25, 26, 27, 28] (by decide +kernel) (by decide +kernel)
set_option maxRecDepth 20000 in
theorem gX1_countWrittenBy_X0_isInTextOf_n125 : GoodIn wsX1_countWrittenBy (wsX0_isInTextOf) := ggX1_countWrittenBy_X0_isInTextOf
theorem dX1_countWrittenBy_0 : decode cX1_countWrittenBy 0 = .ok (.iconst 0, 1) := by decide +kernel
theorem dX1_countWrittenBy_1 : decode cX1_countWrittenBy 1 = .ok (.istore_n 3, 1) := by decide +kernel
theorem dX1_countWrittenBy_2 : decode cX1_countWrittenBy 2 = .ok (.aload_n 0, 1) := by decide +kernel
theorem dX1_countWrittenBy_3 : decode cX1_countWrittenBy 3 = .ok (.getfield 19, 3) := by decide +kernel
theorem dX1_countWrittenBy_6 : decode cX1_countWrittenBy 6 = .ok (.astore 4, 2) := by decide +kernel
theorem dX1_countWrittenBy_8 : decode cX1_countWrittenBy 8 = .ok (.aload 4, 2) := by decide +kernel
theorem dX1_countWrittenBy_10 : decode cX1_countWrittenBy 10 = .ok (.ifnull 34, 3) := by decide +kernel
theorem dX1_countWrittenBy_13 : decode cX1_countWrittenBy 13 = .ok (.aload 4, 2) := by decide +kernel
theorem dX1_countWrittenBy_15 : decode cX1_countWrittenBy 15 = .ok (.getfield 128, 3) := by decide +kernel
theorem dX1_countWrittenBy_18 : decode cX1_countWrittenBy 18 = .ok (.iload_n 1, 1) := by decide +kernel
theorem dX1_countWrittenBy_19 : decode cX1_countWrittenBy 19 = .ok (.if_icmp .ne 15, 3) := by decide +kernel
theorem dX1_countWrittenBy_22 : decode cX1_countWrittenBy 22 = .ok (.aload 4, 2) := by decide +kernel
theorem dX1_countWrittenBy_24 : decode cX1_countWrittenBy 24 = .ok (.iload_n 2, 1) := by decide +kernel
theorem dX1_countWrittenBy_25 : decode cX1_countWrittenBy 25 = .ok (.invokevirtual 125, 3) := by decide +kernel
theorem dX1_countWrittenBy_28 : decode cX1_countWrittenBy 28 = .ok (.ifCond .eq 6, 3) := by decide +kernel
theorem dX1_countWrittenBy_31 : decode cX1_countWrittenBy 31 = .ok (.iinc 3 1, 3) := by decide +kernel
theorem dX1_countWrittenBy_34 : decode cX1_countWrittenBy 34 = .ok (.aload 4, 2) := by decide +kernel
theorem dX1_countWrittenBy_36 : decode cX1_countWrittenBy 36 = .ok (.getfield 113, 3) := by decide +kernel
theorem dX1_countWrittenBy_39 : decode cX1_countWrittenBy 39 = .ok (.astore 4, 2) := by decide +kernel
theorem dX1_countWrittenBy_41 : decode cX1_countWrittenBy 41 = .ok (.goto (-33), 3) := by decide +kernel
theorem dX1_countWrittenBy_44 : decode cX1_countWrittenBy 44 = .ok (.iload_n 3, 1) := by decide +kernel
theorem dX1_countWrittenBy_45 : decode cX1_countWrittenBy 45 = .ok (.ireturn, 1) := by decide +kernel
theorem dX1_shareOf_0 : decode cX1_shareOf 0 = .ok (.iconst 0, 1) := by decide +kernel
theorem dX1_shareOf_1 : decode cX1_shareOf 1 = .ok (.istore 4, 2) := by decide +kernel
theorem dX1_shareOf_3 : decode cX1_shareOf 3 = .ok (.iconst 0, 1) := by decide +kernel
theorem dX1_shareOf_4 : decode cX1_shareOf 4 = .ok (.istore 5, 2) := by decide +kernel
theorem dX1_shareOf_6 : decode cX1_shareOf 6 = .ok (.iconst 0, 1) := by decide +kernel
theorem dX1_shareOf_7 : decode cX1_shareOf 7 = .ok (.istore 6, 2) := by decide +kernel
theorem dX1_shareOf_9 : decode cX1_shareOf 9 = .ok (.iload 6, 2) := by decide +kernel
theorem dX1_shareOf_11 : decode cX1_shareOf 11 = .ok (.iconst 4, 1) := by decide +kernel
theorem dX1_shareOf_12 : decode cX1_shareOf 12 = .ok (.if_icmp .ge 28, 3) := by decide +kernel
theorem dX1_shareOf_15 : decode cX1_shareOf 15 = .ok (.aload_n 2, 1) := by decide +kernel
theorem dX1_shareOf_16 : decode cX1_shareOf 16 = .ok (.iload 6, 2) := by decide +kernel
theorem dX1_shareOf_18 : decode cX1_shareOf 18 = .ok (.iaload, 1) := by decide +kernel
theorem dX1_shareOf_19 : decode cX1_shareOf 19 = .ok (.ifCond .le 15, 3) := by decide +kernel
theorem dX1_shareOf_22 : decode cX1_shareOf 22 = .ok (.iinc 4 1, 3) := by decide +kernel
theorem dX1_shareOf_25 : decode cX1_shareOf 25 = .ok (.iload 5, 2) := by decide +kernel
theorem dX1_shareOf_27 : decode cX1_shareOf 27 = .ok (.aload_n 2, 1) := by decide +kernel
theorem dX1_shareOf_28 : decode cX1_shareOf 28 = .ok (.iload 6, 2) := by decide +kernel
theorem dX1_shareOf_30 : decode cX1_shareOf 30 = .ok (.iaload, 1) := by decide +kernel
theorem dX1_shareOf_31 : decode cX1_shareOf 31 = .ok (.iadd, 1) := by decide +kernel
theorem dX1_shareOf_32 : decode cX1_shareOf 32 = .ok (.istore 5, 2) := by decide +kernel
theorem dX1_shareOf_34 : decode cX1_shareOf 34 = .ok (.iinc 6 1, 3) := by decide +kernel
theorem dX1_shareOf_37 : decode cX1_shareOf 37 = .ok (.goto (-28), 3) := by decide +kernel
theorem dX1_shareOf_40 : decode cX1_shareOf 40 = .ok (.iload 5, 2) := by decide +kernel
theorem dX1_shareOf_42 : decode cX1_shareOf 42 = .ok (.ifCond .eq 9, 3) := by decide +kernel
theorem dX1_shareOf_45 : decode cX1_shareOf 45 = .ok (.aload_n 2, 1) := by decide +kernel
theorem dX1_shareOf_46 : decode cX1_shareOf 46 = .ok (.iload_n 1, 1) := by decide +kernel
theorem dX1_shareOf_47 : decode cX1_shareOf 47 = .ok (.iaload, 1) := by decide +kernel
theorem dX1_shareOf_48 : decode cX1_shareOf 48 = .ok (.ifCond .ne 5, 3) := by decide +kernel
theorem dX1_shareOf_51 : decode cX1_shareOf 51 = .ok (.iconst 0, 1) := by decide +kernel
theorem dX1_shareOf_52 : decode cX1_shareOf 52 = .ok (.ireturn, 1) := by decide +kernel
theorem dX1_shareOf_53 : decode cX1_shareOf 53 = .ok (.iload_n 3, 1) := by decide +kernel
theorem dX1_shareOf_54 : decode cX1_shareOf 54 = .ok (.aload_n 0, 1) := by decide +kernel
theorem dX1_shareOf_55 : decode cX1_shareOf 55 = .ok (.getfield 35, 3) := by decide +kernel
theorem dX1_shareOf_58 : decode cX1_shareOf 58 = .ok (.imul, 1) := by decide +kernel
theorem dX1_shareOf_59 : decode cX1_shareOf 59 = .ok (.bipush 100, 2) := by decide +kernel
theorem dX1_shareOf_61 : decode cX1_shareOf 61 = .ok (.idiv, 1) := by decide +kernel
theorem dX1_shareOf_62 : decode cX1_shareOf 62 = .ok (.istore 6, 2) := by decide +kernel
theorem dX1_shareOf_64 : decode cX1_shareOf 64 = .ok (.iload_n 3, 1) := by decide +kernel
theorem dX1_shareOf_65 : decode cX1_shareOf 65 = .ok (.iload 4, 2) := by decide +kernel
theorem dX1_shareOf_67 : decode cX1_shareOf 67 = .ok (.iload 6, 2) := by decide +kernel
theorem dX1_shareOf_69 : decode cX1_shareOf 69 = .ok (.imul, 1) := by decide +kernel
theorem dX1_shareOf_70 : decode cX1_shareOf 70 = .ok (.isub, 1) := by decide +kernel
theorem dX1_shareOf_71 : decode cX1_shareOf 71 = .ok (.istore 7, 2) := by decide +kernel
theorem dX1_shareOf_73 : decode cX1_shareOf 73 = .ok (.iload 6, 2) := by decide +kernel
theorem dX1_shareOf_75 : decode cX1_shareOf 75 = .ok (.iload 7, 2) := by decide +kernel
theorem dX1_shareOf_77 : decode cX1_shareOf 77 = .ok (.aload_n 2, 1) := by decide +kernel
theorem dX1_shareOf_78 : decode cX1_shareOf 78 = .ok (.iload_n 1, 1) := by decide +kernel
theorem dX1_shareOf_79 : decode cX1_shareOf 79 = .ok (.iaload, 1) := by decide +kernel
theorem dX1_shareOf_80 : decode cX1_shareOf 80 = .ok (.imul, 1) := by decide +kernel
theorem dX1_shareOf_81 : decode cX1_shareOf 81 = .ok (.iload 5, 2) := by decide +kernel
theorem dX1_shareOf_83 : decode cX1_shareOf 83 = .ok (.idiv, 1) := by decide +kernel
theorem dX1_shareOf_84 : decode cX1_shareOf 84 = .ok (.iadd, 1) := by decide +kernel
theorem dX1_shareOf_85 : decode cX1_shareOf 85 = .ok (.ireturn, 1) := by decide +kernel
theorem dX1_credit_0 : decode cX1_credit 0 = .ok (.iload_n 2, 1) := by decide +kernel
theorem dX1_credit_1 : decode cX1_credit 1 = .ok (.aload_n 0, 1) := by decide +kernel
theorem dX1_credit_2 : decode cX1_credit 2 = .ok (.getfield 38, 3) := by decide +kernel
theorem dX1_credit_5 : decode cX1_credit 5 = .ok (.iload_n 1, 1) := by decide +kernel
theorem dX1_credit_6 : decode cX1_credit 6 = .ok (.iaload, 1) := by decide +kernel
theorem dX1_credit_7 : decode cX1_credit 7 = .ok (.invokestatic 162, 3) := by decide +kernel
theorem dX1_credit_10 : decode cX1_credit 10 = .ok (.istore_n 3, 1) := by decide +kernel
theorem dX1_credit_11 : decode cX1_credit 11 = .ok (.aload_n 0, 1) := by decide +kernel
theorem dX1_credit_12 : decode cX1_credit 12 = .ok (.getfield 38, 3) := by decide +kernel
theorem dX1_credit_15 : decode cX1_credit 15 = .ok (.iload_n 1, 1) := by decide +kernel
theorem dX1_credit_16 : decode cX1_credit 16 = .ok (.dup2, 1) := by decide +kernel
theorem dX1_credit_17 : decode cX1_credit 17 = .ok (.iaload, 1) := by decide +kernel
theorem dX1_credit_18 : decode cX1_credit 18 = .ok (.iload_n 3, 1) := by decide +kernel
theorem dX1_credit_19 : decode cX1_credit 19 = .ok (.isub, 1) := by decide +kernel
theorem dX1_credit_20 : decode cX1_credit 20 = .ok (.iastore, 1) := by decide +kernel
theorem dX1_credit_21 : decode cX1_credit 21 = .ok (.aload_n 0, 1) := by decide +kernel
theorem dX1_credit_22 : decode cX1_credit 22 = .ok (.getfield 41, 3) := by decide +kernel
theorem dX1_credit_25 : decode cX1_credit 25 = .ok (.iload_n 1, 1) := by decide +kernel
theorem dX1_credit_26 : decode cX1_credit 26 = .ok (.dup2, 1) := by decide +kernel
theorem dX1_credit_27 : decode cX1_credit 27 = .ok (.laload, 1) := by decide +kernel
theorem dX1_credit_28 : decode cX1_credit 28 = .ok (.iload_n 2, 1) := by decide +kernel
theorem dX1_credit_29 : decode cX1_credit 29 = .ok (.iload_n 3, 1) := by decide +kernel
theorem dX1_credit_30 : decode cX1_credit 30 = .ok (.isub, 1) := by decide +kernel
theorem dX1_credit_31 : decode cX1_credit 31 = .ok (.i2l, 1) := by decide +kernel
theorem dX1_credit_32 : decode cX1_credit 32 = .ok (.ladd, 1) := by decide +kernel
theorem dX1_credit_33 : decode cX1_credit 33 = .ok (.lastore, 1) := by decide +kernel
theorem dX1_credit_34 : decode cX1_credit 34 = .ok (.iload_n 2, 1) := by decide +kernel
theorem dX1_credit_35 : decode cX1_credit 35 = .ok (.iload_n 3, 1) := by decide +kernel
theorem dX1_credit_36 : decode cX1_credit 36 = .ok (.isub, 1) := by decide +kernel
theorem dX1_credit_37 : decode cX1_credit 37 = .ok (.ireturn, 1) := by decide +kernel
