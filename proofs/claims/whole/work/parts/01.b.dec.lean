theorem dJ7_rangeCheck_23922_0 : decode cJ7_rangeCheck_23922 0 = .ok (.iload_n 1, 1) := by decide +kernel
theorem dJ7_rangeCheck_23922_1 : decode cJ7_rangeCheck_23922 1 = .ok (.iload_n 2, 1) := by decide +kernel
theorem dJ7_rangeCheck_23922_2 : decode cJ7_rangeCheck_23922 2 = .ok (.if_icmp .le 44, 3) := by decide +kernel
theorem dJ7_rangeCheck_23922_5 : decode cJ7_rangeCheck_23922 5 = .ok (.new 43, 3) := by decide +kernel
theorem dJ7_rangeCheck_23922_8 : decode cJ7_rangeCheck_23922 8 = .ok (.dup, 1) := by decide +kernel
theorem dJ7_rangeCheck_23922_9 : decode cJ7_rangeCheck_23922 9 = .ok (.new 45, 3) := by decide +kernel
theorem dJ7_rangeCheck_23922_12 : decode cJ7_rangeCheck_23922 12 = .ok (.dup, 1) := by decide +kernel
theorem dJ7_rangeCheck_23922_13 : decode cJ7_rangeCheck_23922 13 = .ok (.invokespecial 47, 3) := by decide +kernel
theorem dJ7_rangeCheck_23922_16 : decode cJ7_rangeCheck_23922 16 = .ok (.ldc 48, 2) := by decide +kernel
theorem dJ7_rangeCheck_23922_18 : decode cJ7_rangeCheck_23922 18 = .ok (.invokevirtual 50, 3) := by decide +kernel
theorem dJ7_rangeCheck_23922_21 : decode cJ7_rangeCheck_23922 21 = .ok (.iload_n 1, 1) := by decide +kernel
theorem dJ7_rangeCheck_23922_22 : decode cJ7_rangeCheck_23922 22 = .ok (.invokevirtual 54, 3) := by decide +kernel
theorem dJ7_rangeCheck_23922_25 : decode cJ7_rangeCheck_23922 25 = .ok (.ldc 57, 2) := by decide +kernel
theorem dJ7_rangeCheck_23922_27 : decode cJ7_rangeCheck_23922 27 = .ok (.invokevirtual 50, 3) := by decide +kernel
theorem dJ7_rangeCheck_23922_30 : decode cJ7_rangeCheck_23922 30 = .ok (.iload_n 2, 1) := by decide +kernel
theorem dJ7_rangeCheck_23922_31 : decode cJ7_rangeCheck_23922 31 = .ok (.invokevirtual 54, 3) := by decide +kernel
theorem dJ7_rangeCheck_23922_34 : decode cJ7_rangeCheck_23922 34 = .ok (.ldc 59, 2) := by decide +kernel
theorem dJ7_rangeCheck_23922_36 : decode cJ7_rangeCheck_23922 36 = .ok (.invokevirtual 50, 3) := by decide +kernel
theorem dJ7_rangeCheck_23922_39 : decode cJ7_rangeCheck_23922 39 = .ok (.invokevirtual 61, 3) := by decide +kernel
theorem dJ7_rangeCheck_23922_42 : decode cJ7_rangeCheck_23922 42 = .ok (.invokespecial 65, 3) := by decide +kernel
theorem dJ7_rangeCheck_23922_45 : decode cJ7_rangeCheck_23922 45 = .ok (.athrow, 1) := by decide +kernel
theorem dJ7_rangeCheck_23922_46 : decode cJ7_rangeCheck_23922 46 = .ok (.iload_n 1, 1) := by decide +kernel
theorem dJ7_rangeCheck_23922_47 : decode cJ7_rangeCheck_23922 47 = .ok (.ifCond .ge 12, 3) := by decide +kernel
theorem dJ7_rangeCheck_23922_50 : decode cJ7_rangeCheck_23922 50 = .ok (.new 68, 3) := by decide +kernel
theorem dJ7_rangeCheck_23922_53 : decode cJ7_rangeCheck_23922 53 = .ok (.dup, 1) := by decide +kernel
theorem dJ7_rangeCheck_23922_54 : decode cJ7_rangeCheck_23922 54 = .ok (.iload_n 1, 1) := by decide +kernel
theorem dJ7_rangeCheck_23922_55 : decode cJ7_rangeCheck_23922 55 = .ok (.invokespecial 70, 3) := by decide +kernel
theorem dJ7_rangeCheck_23922_58 : decode cJ7_rangeCheck_23922 58 = .ok (.athrow, 1) := by decide +kernel
theorem dJ7_rangeCheck_23922_59 : decode cJ7_rangeCheck_23922 59 = .ok (.iload_n 2, 1) := by decide +kernel
theorem dJ7_rangeCheck_23922_60 : decode cJ7_rangeCheck_23922 60 = .ok (.iload_n 0, 1) := by decide +kernel
theorem dJ7_rangeCheck_23922_61 : decode cJ7_rangeCheck_23922 61 = .ok (.if_icmp .le 12, 3) := by decide +kernel
theorem dJ7_rangeCheck_23922_64 : decode cJ7_rangeCheck_23922 64 = .ok (.new 68, 3) := by decide +kernel
theorem dJ7_rangeCheck_23922_67 : decode cJ7_rangeCheck_23922 67 = .ok (.dup, 1) := by decide +kernel
theorem dJ7_rangeCheck_23922_68 : decode cJ7_rangeCheck_23922 68 = .ok (.iload_n 2, 1) := by decide +kernel
theorem dJ7_rangeCheck_23922_69 : decode cJ7_rangeCheck_23922 69 = .ok (.invokespecial 70, 3) := by decide +kernel
theorem dJ7_rangeCheck_23922_72 : decode cJ7_rangeCheck_23922 72 = .ok (.athrow, 1) := by decide +kernel
theorem dJ7_rangeCheck_23922_73 : decode cJ7_rangeCheck_23922 73 = .ok (.return_, 1) := by decide +kernel
theorem dJ7_fill_53178_0 : decode cJ7_fill_53178 0 = .ok (.iconst 0, 1) := by decide +kernel
theorem dJ7_fill_53178_1 : decode cJ7_fill_53178 1 = .ok (.istore_n 2, 1) := by decide +kernel
theorem dJ7_fill_53178_2 : decode cJ7_fill_53178 2 = .ok (.aload_n 0, 1) := by decide +kernel
theorem dJ7_fill_53178_3 : decode cJ7_fill_53178 3 = .ok (.arraylength, 1) := by decide +kernel
theorem dJ7_fill_53178_4 : decode cJ7_fill_53178 4 = .ok (.istore_n 3, 1) := by decide +kernel
theorem dJ7_fill_53178_5 : decode cJ7_fill_53178 5 = .ok (.iload_n 2, 1) := by decide +kernel
theorem dJ7_fill_53178_6 : decode cJ7_fill_53178 6 = .ok (.iload_n 3, 1) := by decide +kernel
theorem dJ7_fill_53178_7 : decode cJ7_fill_53178 7 = .ok (.if_icmp .ge 13, 3) := by decide +kernel
theorem dJ7_fill_53178_10 : decode cJ7_fill_53178 10 = .ok (.aload_n 0, 1) := by decide +kernel
theorem dJ7_fill_53178_11 : decode cJ7_fill_53178 11 = .ok (.iload_n 2, 1) := by decide +kernel
theorem dJ7_fill_53178_12 : decode cJ7_fill_53178 12 = .ok (.iload_n 1, 1) := by decide +kernel
theorem dJ7_fill_53178_13 : decode cJ7_fill_53178 13 = .ok (.iastore, 1) := by decide +kernel
theorem dJ7_fill_53178_14 : decode cJ7_fill_53178 14 = .ok (.iinc 2 1, 3) := by decide +kernel
theorem dJ7_fill_53178_17 : decode cJ7_fill_53178 17 = .ok (.goto (-12), 3) := by decide +kernel
theorem dJ7_fill_53178_20 : decode cJ7_fill_53178 20 = .ok (.return_, 1) := by decide +kernel
theorem dJ7_fill_fda19_0 : decode cJ7_fill_fda19 0 = .ok (.aload_n 0, 1) := by decide +kernel
theorem dJ7_fill_fda19_1 : decode cJ7_fill_fda19 1 = .ok (.arraylength, 1) := by decide +kernel
theorem dJ7_fill_fda19_2 : decode cJ7_fill_fda19 2 = .ok (.iload_n 1, 1) := by decide +kernel
theorem dJ7_fill_fda19_3 : decode cJ7_fill_fda19 3 = .ok (.iload_n 2, 1) := by decide +kernel
theorem dJ7_fill_fda19_4 : decode cJ7_fill_fda19 4 = .ok (.invokestatic 13, 3) := by decide +kernel
theorem dJ7_fill_fda19_7 : decode cJ7_fill_fda19 7 = .ok (.iload_n 1, 1) := by decide +kernel
theorem dJ7_fill_fda19_8 : decode cJ7_fill_fda19 8 = .ok (.istore 4, 2) := by decide +kernel
theorem dJ7_fill_fda19_10 : decode cJ7_fill_fda19 10 = .ok (.iload 4, 2) := by decide +kernel
theorem dJ7_fill_fda19_12 : decode cJ7_fill_fda19 12 = .ok (.iload_n 2, 1) := by decide +kernel
theorem dJ7_fill_fda19_13 : decode cJ7_fill_fda19 13 = .ok (.if_icmp .ge 14, 3) := by decide +kernel
theorem dJ7_fill_fda19_16 : decode cJ7_fill_fda19 16 = .ok (.aload_n 0, 1) := by decide +kernel
theorem dJ7_fill_fda19_17 : decode cJ7_fill_fda19 17 = .ok (.iload 4, 2) := by decide +kernel
theorem dJ7_fill_fda19_19 : decode cJ7_fill_fda19 19 = .ok (.iload_n 3, 1) := by decide +kernel
theorem dJ7_fill_fda19_20 : decode cJ7_fill_fda19 20 = .ok (.iastore, 1) := by decide +kernel
theorem dJ7_fill_fda19_21 : decode cJ7_fill_fda19 21 = .ok (.iinc 4 1, 3) := by decide +kernel
theorem dJ7_fill_fda19_24 : decode cJ7_fill_fda19 24 = .ok (.goto (-14), 3) := by decide +kernel
theorem dJ7_fill_fda19_27 : decode cJ7_fill_fda19 27 = .ok (.return_, 1) := by decide +kernel
theorem dJ9_max_7cf53_0 : decode cJ9_max_7cf53 0 = .ok (.iload_n 0, 1) := by decide +kernel
theorem dJ9_max_7cf53_1 : decode cJ9_max_7cf53 1 = .ok (.iload_n 1, 1) := by decide +kernel
theorem dJ9_max_7cf53_2 : decode cJ9_max_7cf53 2 = .ok (.if_icmp .lt 7, 3) := by decide +kernel
theorem dJ9_max_7cf53_5 : decode cJ9_max_7cf53 5 = .ok (.iload_n 0, 1) := by decide +kernel
theorem dJ9_max_7cf53_6 : decode cJ9_max_7cf53 6 = .ok (.goto 4, 3) := by decide +kernel
theorem dJ9_max_7cf53_9 : decode cJ9_max_7cf53 9 = .ok (.iload_n 1, 1) := by decide +kernel
theorem dJ9_max_7cf53_10 : decode cJ9_max_7cf53 10 = .ok (.ireturn, 1) := by decide +kernel
set_option maxRecDepth 20000 in
theorem ggJ7_fill_fda19_J7_rangeCheck_23922 : GoodIn wsJ7_fill_fda19 wsJ7_rangeCheck_23922 := goodIn_r _ [4] (by decide +kernel) (by decide +kernel)
set_option maxRecDepth 20000 in
theorem gJ7_fill_fda19_J7_rangeCheck_23922 : GoodIn wsJ7_fill_fda19 (va_wsS RJ7 13 yJ7_rangeCheck_23922 wsJ7_rangeCheck_23922) := goodIn_app (goodIn_of _ (by decide +kernel)) ggJ7_fill_fda19_J7_rangeCheck_23922
set_option maxRecDepth 20000 in
theorem ggX0_mark_X0_begin : GoodIn wsX0_mark wsX0_begin := goodIn_r _ [9, 10, 11, 12, 13, 4, 64, 65, 66, 67, 68, 69] (by decide +kernel) (by decide +kernel)
set_option maxRecDepth 20000 in
theorem gX0_mark_X0_begin : GoodIn wsX0_mark (wsV RX0 19 RX0 yX0_begin wsX0_begin) := goodIn_app (goodIn_of _ (by decide +kernel)) ggX0_mark_X0_begin
set_option maxRecDepth 20000 in
theorem ggX0_mark_X1_objectAt : GoodIn wsX0_mark wsX1_objectAt := goodIn_r _ [18, 19, 20, 21, 22, 17, 23, 24, 49, 50, 51, 52, 53, 54, 55, 56, 57, 58, 59, 60, 61, 62, 63] (by decide +kernel) (by decide +kernel)
set_option maxRecDepth 20000 in
theorem gX0_mark_X1_objectAt : GoodIn wsX0_mark (wsV RX0 27 RX1 yX1_objectAt wsX1_objectAt) := goodIn_app (goodIn_of _ (by decide +kernel)) ggX0_mark_X1_objectAt
set_option maxRecDepth 20000 in
theorem ggX0_mark_X0_visit : GoodIn wsX0_mark wsX0_visit := goodIn_r _ [28, 10, 11, 4, 29, 12, 64, 65, 66, 67, 68, 69] (by decide +kernel) (by decide +kernel)
set_option maxRecDepth 20000 in
theorem gX0_mark_X0_visit : GoodIn wsX0_mark (wsV RX0 35 RX0 yX0_visit wsX0_visit) := goodIn_app (goodIn_of _ (by decide +kernel)) ggX0_mark_X0_visit
set_option maxRecDepth 20000 in
theorem ggX0_mark_X0_drain : GoodIn wsX0_mark wsX0_drain := goodIn_r _ [33, 11, 29, 34, 35, 2, 14, 15, 16, 17, 18, 19, 20, 21, 22, 23, 24, 25, 26, 27, 8, 28, 10, 4, 12, 64, 65, 66, 67, 68, 69, 49, 50, 51, 52, 53, 54, 55, 56, 57, 58, 59, 60, 61, 62, 63] (by decide +kernel) (by decide +kernel)
set_option maxRecDepth 20000 in
theorem gX0_mark_X0_drain : GoodIn wsX0_mark (wsV RX0 39 RX0 yX0_drain wsX0_drain) := goodIn_app (goodIn_of _ (by decide +kernel)) ggX0_mark_X0_drain
set_option maxRecDepth 20000 in
theorem ggX0_mark_X1_isPinned : GoodIn wsX0_mark wsX1_isPinned := goodIn_r _ [39, 40, 41, 42, 43, 17, 44, 19, 20, 21, 22, 23, 24, 49, 50, 51, 52, 53, 54, 55, 56, 57, 58, 59, 60, 61, 62, 63] (by decide +kernel) (by decide +kernel)
set_option maxRecDepth 20000 in
theorem gX0_mark_X1_isPinned : GoodIn wsX0_mark (wsV RX0 46 RX1 yX1_isPinned wsX1_isPinned) := goodIn_app (goodIn_of _ (by decide +kernel)) ggX0_mark_X1_isPinned
set_option maxRecDepth 20000 in
theorem ggX0_mark_X0_scan : GoodIn wsX0_mark wsX0_scan := goodIn_r _ [48, 4, 13, 3, 10, 34, 35, 2, 14, 15, 16, 17, 18, 19, 20, 21, 22, 23, 24, 25, 26, 27, 8, 28, 11, 29, 12, 30, 31, 32, 33, 64, 65, 66, 67, 68, 69, 49, 50, 51, 52, 53, 54, 55, 56, 57, 58, 59, 60, 61, 62, 63] (by decide +kernel) (by decide +kernel)
set_option maxRecDepth 20000 in
theorem gX0_mark_X0_scan : GoodIn wsX0_mark (wsV RX0 54 RX0 yX0_scan wsX0_scan) := goodIn_app (goodIn_of _ (by decide +kernel)) ggX0_mark_X0_scan
set_option maxRecDepth 20000 in
theorem ggX0_drain_X1_objectAt : GoodIn wsX0_drain wsX1_objectAt := goodIn_r _ [10, 11, 12, 13, 14, 9, 15, 16, 31, 32, 33, 34, 35, 36, 37, 38, 39, 40, 41, 42, 43, 44, 45] (by decide +kernel) (by decide +kernel)
set_option maxRecDepth 20000 in
theorem gX0_drain_X1_objectAt : GoodIn wsX0_drain (wsV RX0 27 RX1 yX1_objectAt wsX1_objectAt) := goodIn_app (goodIn_of _ (by decide +kernel)) ggX0_drain_X1_objectAt
set_option maxRecDepth 20000 in
theorem ggX0_drain_X0_visit : GoodIn wsX0_drain wsX0_visit := goodIn_r _ [21, 22, 1, 23, 2, 24, 25, 26, 27, 28, 29, 30] (by decide +kernel) (by decide +kernel)
set_option maxRecDepth 20000 in
theorem gX0_drain_X0_visit : GoodIn wsX0_drain (wsV RX0 35 RX0 yX0_visit wsX0_visit) := goodIn_app (goodIn_of _ (by decide +kernel)) ggX0_drain_X0_visit
set_option maxRecDepth 20000 in
theorem ggX0_scan_X1_objectAt : GoodIn wsX0_scan wsX1_objectAt := goodIn_r _ [12, 13, 14, 15, 16, 11, 17, 18, 37, 38, 39, 40, 41, 42, 43, 44, 45, 46, 47, 48, 49, 50, 51] (by decide +kernel) (by decide +kernel)
set_option maxRecDepth 20000 in
theorem gX0_scan_X1_objectAt : GoodIn wsX0_scan (wsV RX0 27 RX1 yX1_objectAt wsX1_objectAt) := goodIn_app (goodIn_of _ (by decide +kernel)) ggX0_scan_X1_objectAt
set_option maxRecDepth 20000 in
theorem ggX0_scan_X0_visit : GoodIn wsX0_scan wsX0_visit := goodIn_r _ [23, 4, 24, 1, 25, 26, 31, 32, 33, 34, 35, 36] (by decide +kernel) (by decide +kernel)
set_option maxRecDepth 20000 in
theorem gX0_scan_X0_visit : GoodIn wsX0_scan (wsV RX0 35 RX0 yX0_visit wsX0_visit) := goodIn_app (goodIn_of _ (by decide +kernel)) ggX0_scan_X0_visit
set_option maxRecDepth 20000 in
theorem ggX0_scan_X0_drain : GoodIn wsX0_scan wsX0_drain := goodIn_r _ [30, 24, 25, 5, 6, 7, 8, 9, 10, 11, 12, 13, 14, 15, 16, 17, 18, 19, 20, 21, 22, 23, 4, 1, 26, 31, 32, 33, 34, 35, 36, 37, 38, 39, 40, 41, 42, 43, 44, 45, 46, 47, 48, 49, 50, 51] (by decide +kernel) (by decide +kernel)
set_option maxRecDepth 20000 in
theorem gX0_scan_X0_drain : GoodIn wsX0_scan (wsV RX0 39 RX0 yX0_drain wsX0_drain) := goodIn_app (goodIn_of _ (by decide +kernel)) ggX0_scan_X0_drain
set_option maxRecDepth 20000 in
theorem ggX0_plan_J7_fill_53178 : GoodIn wsX0_plan wsJ7_fill_53178 := goodIn_r _ [10] (by decide +kernel) (by decide +kernel)
set_option maxRecDepth 20000 in
theorem gX0_plan_J7_fill_53178 : GoodIn wsX0_plan (va_wsS RX0 75 yJ7_fill_53178 wsJ7_fill_53178) := goodIn_app (goodIn_of _ (by decide +kernel)) ggX0_plan_J7_fill_53178
set_option maxRecDepth 20000 in
theorem ggX0_plan_X1_isPinned : GoodIn wsX0_plan wsX1_isPinned := goodIn_r _ [15, 16, 17, 18, 19, 14, 20, 21, 22, 23, 24, 25, 26, 38, 39, 40, 41, 42, 43, 44, 45, 46, 47, 48, 49, 50, 51, 52] (by decide +kernel) (by decide +kernel)
set_option maxRecDepth 20000 in
theorem gX0_plan_X1_isPinned : GoodIn wsX0_plan (wsV RX0 46 RX1 yX1_isPinned wsX1_isPinned) := goodIn_app (goodIn_of _ (by decide +kernel)) ggX0_plan_X1_isPinned
set_option maxRecDepth 20000 in
theorem ggX0_plan_X0_planObject : GoodIn wsX0_plan wsX0_planObject := goodIn_r _ [31, 1, 2, 32, 33, 34, 14, 35, 36, 37, 38, 39, 40, 41, 42, 43, 44, 45, 46, 47, 48, 49, 50, 51, 52] (by decide +kernel) (by decide +kernel)
set_option maxRecDepth 20000 in
theorem gX0_plan_X0_planObject : GoodIn wsX0_plan (wsV RX0 84 RX0 yX0_planObject wsX0_planObject) := goodIn_app (goodIn_of _ (by decide +kernel)) ggX0_plan_X0_planObject
set_option maxRecDepth 20000 in
theorem ggX0_plan_X1_sizeOf : GoodIn wsX0_plan wsX1_sizeOf := goodIn_r _ [35, 36, 37, 38, 39, 40, 41, 42, 43, 44, 45, 46, 47, 48, 49, 50, 51, 52] (by decide +kernel) (by decide +kernel)
set_option maxRecDepth 20000 in
theorem gX0_plan_X1_sizeOf : GoodIn wsX0_plan (wsV RX0 88 RX1 yX1_sizeOf wsX1_sizeOf) := goodIn_app (goodIn_of _ (by decide +kernel)) ggX0_plan_X1_sizeOf
set_option maxRecDepth 20000 in
theorem ggX0_planObject_X1_sizeOf : GoodIn wsX0_planObject wsX1_sizeOf := goodIn_r _ [7, 8, 9, 10, 11, 12, 13, 14, 15, 16, 17, 18, 19, 20, 21, 22, 23, 24] (by decide +kernel) (by decide +kernel)
set_option maxRecDepth 20000 in
theorem gX0_planObject_X1_sizeOf : GoodIn wsX0_planObject (wsV RX0 88 RX1 yX1_sizeOf wsX1_sizeOf) := goodIn_app (goodIn_of _ (by decide +kernel)) ggX0_planObject_X1_sizeOf
set_option maxRecDepth 20000 in
theorem ggX0_redirect_X0_redirectRow : GoodIn wsX0_redirect wsX0_redirectRow := goodIn_r _ [11, 12, 13, 14, 15, 16, 17, 18, 19, 20, 21, 22, 23, 24, 25, 26, 27, 28, 29, 30, 31, 32, 33] (by decide +kernel) (by decide +kernel)
set_option maxRecDepth 20000 in
theorem gX0_redirect_X0_redirectRow : GoodIn wsX0_redirect (wsV RX0 91 RX0 yX0_redirectRow wsX0_redirectRow) := goodIn_app (goodIn_of _ (by decide +kernel)) ggX0_redirect_X0_redirectRow
set_option maxRecDepth 20000 in
theorem ggX0_redirectRow_X1_isAddress : GoodIn wsX0_redirectRow wsX1_isAddress := goodIn_r _ [6, 7, 8, 9, 10, 11, 12, 13, 14, 15, 16, 17, 18, 19, 20, 21, 22] (by decide +kernel) (by decide +kernel)
set_option maxRecDepth 20000 in
theorem gX0_redirectRow_X1_isAddress : GoodIn wsX0_redirectRow (wsV RX0 98 RX1 yX1_isAddress wsX1_isAddress) := goodIn_app (goodIn_of _ (by decide +kernel)) ggX0_redirectRow_X1_isAddress
set_option maxRecDepth 20000 in
theorem ggX0_slide_J7_fill_53178 : GoodIn wsX0_slide wsJ7_fill_53178 := goodIn_r _ [8] (by decide +kernel) (by decide +kernel)
set_option maxRecDepth 20000 in
theorem gX0_slide_J7_fill_53178 : GoodIn wsX0_slide (va_wsS RX0 75 yJ7_fill_53178 wsJ7_fill_53178) := goodIn_app (goodIn_of _ (by decide +kernel)) ggX0_slide_J7_fill_53178
set_option maxRecDepth 20000 in
theorem ggX0_slide_X1_isAddress : GoodIn wsX0_slide wsX1_isAddress := goodIn_r _ [13, 14, 43, 44, 45, 46, 47, 48, 49, 50, 51, 52, 53, 54, 55, 56, 57] (by decide +kernel) (by decide +kernel)
set_option maxRecDepth 20000 in
theorem gX0_slide_X1_isAddress : GoodIn wsX0_slide (wsV RX0 98 RX1 yX1_isAddress wsX1_isAddress) := goodIn_app (goodIn_of _ (by decide +kernel)) ggX0_slide_X1_isAddress
set_option maxRecDepth 20000 in
theorem ggX0_slide_X1_shift : GoodIn wsX0_slide wsX1_shift := goodIn_r _ [18, 19, 20, 21, 22, 23, 24, 25, 26, 27, 28, 29, 30, 12, 31, 32, 33, 34, 35, 36, 37, 38, 7, 39, 40, 41, 42, 43, 44, 45, 46, 47, 48, 49, 50, 51, 52, 53, 54, 55, 56, 57] (by decide +kernel) (by decide +kernel)
set_option maxRecDepth 20000 in
theorem gX0_slide_X1_shift : GoodIn wsX0_slide (wsV RX0 104 RX1 yX1_shift wsX1_shift) := goodIn_app (goodIn_of _ (by decide +kernel)) ggX0_slide_X1_shift
theorem dX0_init_0 : decode cX0_init 0 = .ok (.aload_n 0, 1) := by decide +kernel
theorem dX0_init_1 : decode cX0_init 1 = .ok (.invokespecial 3, 3) := by decide +kernel
theorem dX0_init_4 : decode cX0_init 4 = .ok (.aload_n 0, 1) := by decide +kernel
theorem dX0_init_5 : decode cX0_init 5 = .ok (.sipush 200, 3) := by decide +kernel
theorem dX0_init_8 : decode cX0_init 8 = .ok (.newarray .boolean, 2) := by decide +kernel
theorem dX0_init_10 : decode cX0_init 10 = .ok (.putfield 9, 3) := by decide +kernel
theorem dX0_init_13 : decode cX0_init 13 = .ok (.aload_n 0, 1) := by decide +kernel
theorem dX0_init_14 : decode cX0_init 14 = .ok (.bipush 20, 2) := by decide +kernel
theorem dX0_init_16 : decode cX0_init 16 = .ok (.newarray .int, 2) := by decide +kernel
theorem dX0_init_18 : decode cX0_init 18 = .ok (.putfield 15, 3) := by decide +kernel
theorem dX0_init_21 : decode cX0_init 21 = .ok (.return_, 1) := by decide +kernel
theorem dX0_mark_0 : decode cX0_mark 0 = .ok (.aload_n 0, 1) := by decide +kernel
theorem dX0_mark_1 : decode cX0_mark 1 = .ok (.invokevirtual 19, 3) := by decide +kernel
theorem dX0_mark_4 : decode cX0_mark 4 = .ok (.iconst 0, 1) := by decide +kernel
theorem dX0_mark_5 : decode cX0_mark 5 = .ok (.istore_n 2, 1) := by decide +kernel
theorem dX0_mark_6 : decode cX0_mark 6 = .ok (.iload_n 2, 1) := by decide +kernel
theorem dX0_mark_7 : decode cX0_mark 7 = .ok (.bipush 6, 2) := by decide +kernel
theorem dX0_mark_9 : decode cX0_mark 9 = .ok (.if_icmp .ge 32, 3) := by decide +kernel
theorem dX0_mark_12 : decode cX0_mark 12 = .ok (.aload_n 0, 1) := by decide +kernel
theorem dX0_mark_13 : decode cX0_mark 13 = .ok (.aload_n 1, 1) := by decide +kernel
theorem dX0_mark_14 : decode cX0_mark 14 = .ok (.aload_n 1, 1) := by decide +kernel
theorem dX0_mark_15 : decode cX0_mark 15 = .ok (.getfield 22, 3) := by decide +kernel
theorem dX0_mark_18 : decode cX0_mark 18 = .ok (.iload_n 2, 1) := by decide +kernel
theorem dX0_mark_19 : decode cX0_mark 19 = .ok (.iaload, 1) := by decide +kernel
theorem dX0_mark_20 : decode cX0_mark 20 = .ok (.invokevirtual 27, 3) := by decide +kernel
theorem dX0_mark_23 : decode cX0_mark 23 = .ok (.aload_n 1, 1) := by decide +kernel
theorem dX0_mark_24 : decode cX0_mark 24 = .ok (.getfield 31, 3) := by decide +kernel
theorem dX0_mark_27 : decode cX0_mark 27 = .ok (.invokevirtual 35, 3) := by decide +kernel
theorem dX0_mark_30 : decode cX0_mark 30 = .ok (.aload_n 0, 1) := by decide +kernel
theorem dX0_mark_31 : decode cX0_mark 31 = .ok (.aload_n 1, 1) := by decide +kernel
theorem dX0_mark_32 : decode cX0_mark 32 = .ok (.invokevirtual 39, 3) := by decide +kernel
theorem dX0_mark_35 : decode cX0_mark 35 = .ok (.iinc 2 1, 3) := by decide +kernel
theorem dX0_mark_38 : decode cX0_mark 38 = .ok (.goto (-32), 3) := by decide +kernel
theorem dX0_mark_41 : decode cX0_mark 41 = .ok (.iconst 0, 1) := by decide +kernel
theorem dX0_mark_42 : decode cX0_mark 42 = .ok (.istore_n 2, 1) := by decide +kernel
theorem dX0_mark_43 : decode cX0_mark 43 = .ok (.iload_n 2, 1) := by decide +kernel
theorem dX0_mark_44 : decode cX0_mark 44 = .ok (.aload_n 1, 1) := by decide +kernel
theorem dX0_mark_45 : decode cX0_mark 45 = .ok (.getfield 43, 3) := by decide +kernel
theorem dX0_mark_48 : decode cX0_mark 48 = .ok (.if_icmp .ge 31, 3) := by decide +kernel
theorem dX0_mark_51 : decode cX0_mark 51 = .ok (.aload_n 1, 1) := by decide +kernel
theorem dX0_mark_52 : decode cX0_mark 52 = .ok (.iload_n 2, 1) := by decide +kernel
theorem dX0_mark_53 : decode cX0_mark 53 = .ok (.invokevirtual 46, 3) := by decide +kernel
theorem dX0_mark_56 : decode cX0_mark 56 = .ok (.ifCond .eq 17, 3) := by decide +kernel
theorem dX0_mark_59 : decode cX0_mark 59 = .ok (.aload_n 0, 1) := by decide +kernel
theorem dX0_mark_60 : decode cX0_mark 60 = .ok (.iload_n 2, 1) := by decide +kernel
theorem dX0_mark_61 : decode cX0_mark 61 = .ok (.aload_n 1, 1) := by decide +kernel
theorem dX0_mark_62 : decode cX0_mark 62 = .ok (.getfield 31, 3) := by decide +kernel
theorem dX0_mark_65 : decode cX0_mark 65 = .ok (.invokevirtual 35, 3) := by decide +kernel
theorem dX0_mark_68 : decode cX0_mark 68 = .ok (.aload_n 0, 1) := by decide +kernel
theorem dX0_mark_69 : decode cX0_mark 69 = .ok (.aload_n 1, 1) := by decide +kernel
theorem dX0_mark_70 : decode cX0_mark 70 = .ok (.invokevirtual 39, 3) := by decide +kernel
theorem dX0_mark_73 : decode cX0_mark 73 = .ok (.iinc 2 1, 3) := by decide +kernel
theorem dX0_mark_76 : decode cX0_mark 76 = .ok (.goto (-33), 3) := by decide +kernel
theorem dX0_mark_79 : decode cX0_mark 79 = .ok (.iconst 0, 1) := by decide +kernel
theorem dX0_mark_80 : decode cX0_mark 80 = .ok (.istore_n 2, 1) := by decide +kernel
theorem dX0_mark_81 : decode cX0_mark 81 = .ok (.iload_n 2, 1) := by decide +kernel
theorem dX0_mark_82 : decode cX0_mark 82 = .ok (.sipush 200, 3) := by decide +kernel
theorem dX0_mark_85 : decode cX0_mark 85 = .ok (.if_icmp .ge 21, 3) := by decide +kernel
theorem dX0_mark_88 : decode cX0_mark 88 = .ok (.aload_n 0, 1) := by decide +kernel
theorem dX0_mark_89 : decode cX0_mark 89 = .ok (.getfield 50, 3) := by decide +kernel
theorem dX0_mark_92 : decode cX0_mark 92 = .ok (.ifCond .eq 14, 3) := by decide +kernel
theorem dX0_mark_95 : decode cX0_mark 95 = .ok (.aload_n 0, 1) := by decide +kernel
theorem dX0_mark_96 : decode cX0_mark 96 = .ok (.aload_n 1, 1) := by decide +kernel
theorem dX0_mark_97 : decode cX0_mark 97 = .ok (.invokevirtual 54, 3) := by decide +kernel
theorem dX0_mark_100 : decode cX0_mark 100 = .ok (.iinc 2 1, 3) := by decide +kernel
theorem dX0_mark_103 : decode cX0_mark 103 = .ok (.goto (-22), 3) := by decide +kernel
theorem dX0_mark_106 : decode cX0_mark 106 = .ok (.return_, 1) := by decide +kernel
theorem dX0_begin_0 : decode cX0_begin 0 = .ok (.iconst 0, 1) := by decide +kernel
theorem dX0_begin_1 : decode cX0_begin 1 = .ok (.istore_n 1, 1) := by decide +kernel
theorem dX0_begin_2 : decode cX0_begin 2 = .ok (.iload_n 1, 1) := by decide +kernel
theorem dX0_begin_3 : decode cX0_begin 3 = .ok (.sipush 200, 3) := by decide +kernel
theorem dX0_begin_6 : decode cX0_begin 6 = .ok (.if_icmp .ge 16, 3) := by decide +kernel
theorem dX0_begin_9 : decode cX0_begin 9 = .ok (.aload_n 0, 1) := by decide +kernel
theorem dX0_begin_10 : decode cX0_begin 10 = .ok (.getfield 9, 3) := by decide +kernel
theorem dX0_begin_13 : decode cX0_begin 13 = .ok (.iload_n 1, 1) := by decide +kernel
theorem dX0_begin_14 : decode cX0_begin 14 = .ok (.iconst 0, 1) := by decide +kernel
theorem dX0_begin_15 : decode cX0_begin 15 = .ok (.bastore, 1) := by decide +kernel
theorem dX0_begin_16 : decode cX0_begin 16 = .ok (.iinc 1 1, 3) := by decide +kernel
theorem dX0_begin_19 : decode cX0_begin 19 = .ok (.goto (-17), 3) := by decide +kernel
theorem dX0_begin_22 : decode cX0_begin 22 = .ok (.aload_n 0, 1) := by decide +kernel
theorem dX0_begin_23 : decode cX0_begin 23 = .ok (.iconst 0, 1) := by decide +kernel
theorem dX0_begin_24 : decode cX0_begin 24 = .ok (.putfield 57, 3) := by decide +kernel
theorem dX0_begin_27 : decode cX0_begin 27 = .ok (.aload_n 0, 1) := by decide +kernel
theorem dX0_begin_28 : decode cX0_begin 28 = .ok (.iconst 0, 1) := by decide +kernel
theorem dX0_begin_29 : decode cX0_begin 29 = .ok (.putfield 60, 3) := by decide +kernel
theorem dX0_begin_32 : decode cX0_begin 32 = .ok (.aload_n 0, 1) := by decide +kernel
theorem dX0_begin_33 : decode cX0_begin 33 = .ok (.iconst 0, 1) := by decide +kernel
theorem dX0_begin_34 : decode cX0_begin 34 = .ok (.putfield 63, 3) := by decide +kernel
theorem dX0_begin_37 : decode cX0_begin 37 = .ok (.aload_n 0, 1) := by decide +kernel
theorem dX0_begin_38 : decode cX0_begin 38 = .ok (.iconst 0, 1) := by decide +kernel
theorem dX0_begin_39 : decode cX0_begin 39 = .ok (.putfield 50, 3) := by decide +kernel
theorem dX0_begin_42 : decode cX0_begin 42 = .ok (.return_, 1) := by decide +kernel
theorem dX0_visit_0 : decode cX0_visit 0 = .ok (.iload_n 1, 1) := by decide +kernel
theorem dX0_visit_1 : decode cX0_visit 1 = .ok (.iconst (-1), 1) := by decide +kernel
theorem dX0_visit_2 : decode cX0_visit 2 = .ok (.if_icmp .eq 12, 3) := by decide +kernel
theorem dX0_visit_5 : decode cX0_visit 5 = .ok (.aload_n 0, 1) := by decide +kernel
theorem dX0_visit_6 : decode cX0_visit 6 = .ok (.getfield 9, 3) := by decide +kernel
theorem dX0_visit_9 : decode cX0_visit 9 = .ok (.iload_n 1, 1) := by decide +kernel
theorem dX0_visit_10 : decode cX0_visit 10 = .ok (.baload, 1) := by decide +kernel
theorem dX0_visit_11 : decode cX0_visit 11 = .ok (.ifCond .eq 4, 3) := by decide +kernel
theorem dX0_visit_14 : decode cX0_visit 14 = .ok (.return_, 1) := by decide +kernel
theorem dX0_visit_15 : decode cX0_visit 15 = .ok (.aload_n 0, 1) := by decide +kernel
theorem dX0_visit_16 : decode cX0_visit 16 = .ok (.getfield 9, 3) := by decide +kernel
theorem dX0_visit_19 : decode cX0_visit 19 = .ok (.iload_n 1, 1) := by decide +kernel
theorem dX0_visit_20 : decode cX0_visit 20 = .ok (.iconst 1, 1) := by decide +kernel
theorem dX0_visit_21 : decode cX0_visit 21 = .ok (.bastore, 1) := by decide +kernel
theorem dX0_visit_22 : decode cX0_visit 22 = .ok (.aload_n 0, 1) := by decide +kernel
theorem dX0_visit_23 : decode cX0_visit 23 = .ok (.getfield 57, 3) := by decide +kernel
theorem dX0_visit_26 : decode cX0_visit 26 = .ok (.iload_n 2, 1) := by decide +kernel
theorem dX0_visit_27 : decode cX0_visit 27 = .ok (.if_icmp .ge 12, 3) := by decide +kernel
theorem dX0_visit_30 : decode cX0_visit 30 = .ok (.aload_n 0, 1) := by decide +kernel
theorem dX0_visit_31 : decode cX0_visit 31 = .ok (.getfield 57, 3) := by decide +kernel
theorem dX0_visit_34 : decode cX0_visit 34 = .ok (.bipush 20, 2) := by decide +kernel
theorem dX0_visit_36 : decode cX0_visit 36 = .ok (.if_icmp .lt 9, 3) := by decide +kernel
theorem dX0_visit_39 : decode cX0_visit 39 = .ok (.aload_n 0, 1) := by decide +kernel
theorem dX0_visit_40 : decode cX0_visit 40 = .ok (.iconst 1, 1) := by decide +kernel
theorem dX0_visit_41 : decode cX0_visit 41 = .ok (.putfield 50, 3) := by decide +kernel
theorem dX0_visit_44 : decode cX0_visit 44 = .ok (.return_, 1) := by decide +kernel
theorem dX0_visit_45 : decode cX0_visit 45 = .ok (.aload_n 0, 1) := by decide +kernel
theorem dX0_visit_46 : decode cX0_visit 46 = .ok (.getfield 15, 3) := by decide +kernel
theorem dX0_visit_49 : decode cX0_visit 49 = .ok (.aload_n 0, 1) := by decide +kernel
theorem dX0_visit_50 : decode cX0_visit 50 = .ok (.getfield 57, 3) := by decide +kernel
theorem dX0_visit_53 : decode cX0_visit 53 = .ok (.iload_n 1, 1) := by decide +kernel
theorem dX0_visit_54 : decode cX0_visit 54 = .ok (.iastore, 1) := by decide +kernel
theorem dX0_visit_55 : decode cX0_visit 55 = .ok (.aload_n 0, 1) := by decide +kernel
theorem dX0_visit_56 : decode cX0_visit 56 = .ok (.dup, 1) := by decide +kernel
theorem dX0_visit_57 : decode cX0_visit 57 = .ok (.getfield 57, 3) := by decide +kernel
theorem dX0_visit_60 : decode cX0_visit 60 = .ok (.iconst 1, 1) := by decide +kernel
theorem dX0_visit_61 : decode cX0_visit 61 = .ok (.iadd, 1) := by decide +kernel
theorem dX0_visit_62 : decode cX0_visit 62 = .ok (.putfield 57, 3) := by decide +kernel
theorem dX0_visit_65 : decode cX0_visit 65 = .ok (.aload_n 0, 1) := by decide +kernel
theorem dX0_visit_66 : decode cX0_visit 66 = .ok (.getfield 57, 3) := by decide +kernel
theorem dX0_visit_69 : decode cX0_visit 69 = .ok (.aload_n 0, 1) := by decide +kernel
theorem dX0_visit_70 : decode cX0_visit 70 = .ok (.getfield 60, 3) := by decide +kernel
theorem dX0_visit_73 : decode cX0_visit 73 = .ok (.if_icmp .le 11, 3) := by decide +kernel
theorem dX0_visit_76 : decode cX0_visit 76 = .ok (.aload_n 0, 1) := by decide +kernel
theorem dX0_visit_77 : decode cX0_visit 77 = .ok (.aload_n 0, 1) := by decide +kernel
theorem dX0_visit_78 : decode cX0_visit 78 = .ok (.getfield 57, 3) := by decide +kernel
theorem dX0_visit_81 : decode cX0_visit 81 = .ok (.putfield 60, 3) := by decide +kernel
theorem dX0_visit_84 : decode cX0_visit 84 = .ok (.return_, 1) := by decide +kernel
theorem dX0_drain_0 : decode cX0_drain 0 = .ok (.iconst 0, 1) := by decide +kernel
theorem dX0_drain_1 : decode cX0_drain 1 = .ok (.istore_n 2, 1) := by decide +kernel
theorem dX0_drain_2 : decode cX0_drain 2 = .ok (.iload_n 2, 1) := by decide +kernel
theorem dX0_drain_3 : decode cX0_drain 3 = .ok (.sipush 200, 3) := by decide +kernel
theorem dX0_drain_6 : decode cX0_drain 6 = .ok (.if_icmp .ge 79, 3) := by decide +kernel
theorem dX0_drain_9 : decode cX0_drain 9 = .ok (.aload_n 0, 1) := by decide +kernel
theorem dX0_drain_10 : decode cX0_drain 10 = .ok (.getfield 57, 3) := by decide +kernel
theorem dX0_drain_13 : decode cX0_drain 13 = .ok (.ifCond .le 72, 3) := by decide +kernel
theorem dX0_drain_16 : decode cX0_drain 16 = .ok (.aload_n 0, 1) := by decide +kernel
theorem dX0_drain_17 : decode cX0_drain 17 = .ok (.dup, 1) := by decide +kernel
theorem dX0_drain_18 : decode cX0_drain 18 = .ok (.getfield 57, 3) := by decide +kernel
theorem dX0_drain_21 : decode cX0_drain 21 = .ok (.iconst 1, 1) := by decide +kernel
theorem dX0_drain_22 : decode cX0_drain 22 = .ok (.isub, 1) := by decide +kernel
theorem dX0_drain_23 : decode cX0_drain 23 = .ok (.putfield 57, 3) := by decide +kernel
theorem dX0_drain_26 : decode cX0_drain 26 = .ok (.aload_n 0, 1) := by decide +kernel
theorem dX0_drain_27 : decode cX0_drain 27 = .ok (.getfield 15, 3) := by decide +kernel
theorem dX0_drain_30 : decode cX0_drain 30 = .ok (.aload_n 0, 1) := by decide +kernel
theorem dX0_drain_31 : decode cX0_drain 31 = .ok (.getfield 57, 3) := by decide +kernel
theorem dX0_drain_34 : decode cX0_drain 34 = .ok (.iaload, 1) := by decide +kernel
theorem dX0_drain_35 : decode cX0_drain 35 = .ok (.istore_n 3, 1) := by decide +kernel
theorem dX0_drain_36 : decode cX0_drain 36 = .ok (.iconst 0, 1) := by decide +kernel
theorem dX0_drain_37 : decode cX0_drain 37 = .ok (.istore 4, 2) := by decide +kernel
theorem dX0_drain_39 : decode cX0_drain 39 = .ok (.iload 4, 2) := by decide +kernel
theorem dX0_drain_41 : decode cX0_drain 41 = .ok (.aload_n 1, 1) := by decide +kernel
theorem dX0_drain_42 : decode cX0_drain 42 = .ok (.getfield 66, 3) := by decide +kernel
theorem dX0_drain_45 : decode cX0_drain 45 = .ok (.iload_n 3, 1) := by decide +kernel
theorem dX0_drain_46 : decode cX0_drain 46 = .ok (.iaload, 1) := by decide +kernel
theorem dX0_drain_47 : decode cX0_drain 47 = .ok (.if_icmp .ge 32, 3) := by decide +kernel
theorem dX0_drain_50 : decode cX0_drain 50 = .ok (.aload_n 0, 1) := by decide +kernel
theorem dX0_drain_51 : decode cX0_drain 51 = .ok (.aload_n 1, 1) := by decide +kernel
theorem dX0_drain_52 : decode cX0_drain 52 = .ok (.aload_n 1, 1) := by decide +kernel
theorem dX0_drain_53 : decode cX0_drain 53 = .ok (.getfield 69, 3) := by decide +kernel
theorem dX0_drain_56 : decode cX0_drain 56 = .ok (.iload_n 3, 1) := by decide +kernel
theorem dX0_drain_57 : decode cX0_drain 57 = .ok (.iconst 1, 1) := by decide +kernel
theorem dX0_drain_58 : decode cX0_drain 58 = .ok (.iadd, 1) := by decide +kernel
theorem dX0_drain_59 : decode cX0_drain 59 = .ok (.iload 4, 2) := by decide +kernel
theorem dX0_drain_61 : decode cX0_drain 61 = .ok (.iadd, 1) := by decide +kernel
theorem dX0_drain_62 : decode cX0_drain 62 = .ok (.iaload, 1) := by decide +kernel
theorem dX0_drain_63 : decode cX0_drain 63 = .ok (.invokevirtual 27, 3) := by decide +kernel
theorem dX0_drain_66 : decode cX0_drain 66 = .ok (.aload_n 1, 1) := by decide +kernel
theorem dX0_drain_67 : decode cX0_drain 67 = .ok (.getfield 31, 3) := by decide +kernel
theorem dX0_drain_70 : decode cX0_drain 70 = .ok (.invokevirtual 35, 3) := by decide +kernel
theorem dX0_drain_73 : decode cX0_drain 73 = .ok (.iinc 4 1, 3) := by decide +kernel
theorem dX0_drain_76 : decode cX0_drain 76 = .ok (.goto (-37), 3) := by decide +kernel
theorem dX0_drain_79 : decode cX0_drain 79 = .ok (.iinc 2 1, 3) := by decide +kernel
theorem dX0_drain_82 : decode cX0_drain 82 = .ok (.goto (-80), 3) := by decide +kernel
theorem dX0_drain_85 : decode cX0_drain 85 = .ok (.return_, 1) := by decide +kernel
theorem dX0_scan_0 : decode cX0_scan 0 = .ok (.aload_n 0, 1) := by decide +kernel
theorem dX0_scan_1 : decode cX0_scan 1 = .ok (.iconst 0, 1) := by decide +kernel
theorem dX0_scan_2 : decode cX0_scan 2 = .ok (.putfield 50, 3) := by decide +kernel
theorem dX0_scan_5 : decode cX0_scan 5 = .ok (.aload_n 0, 1) := by decide +kernel
theorem dX0_scan_6 : decode cX0_scan 6 = .ok (.dup, 1) := by decide +kernel
theorem dX0_scan_7 : decode cX0_scan 7 = .ok (.getfield 63, 3) := by decide +kernel
theorem dX0_scan_10 : decode cX0_scan 10 = .ok (.iconst 1, 1) := by decide +kernel
theorem dX0_scan_11 : decode cX0_scan 11 = .ok (.iadd, 1) := by decide +kernel
theorem dX0_scan_12 : decode cX0_scan 12 = .ok (.putfield 63, 3) := by decide +kernel
theorem dX0_scan_15 : decode cX0_scan 15 = .ok (.iconst 0, 1) := by decide +kernel
theorem dX0_scan_16 : decode cX0_scan 16 = .ok (.istore_n 2, 1) := by decide +kernel
theorem dX0_scan_17 : decode cX0_scan 17 = .ok (.iload_n 2, 1) := by decide +kernel
theorem dX0_scan_18 : decode cX0_scan 18 = .ok (.aload_n 1, 1) := by decide +kernel
theorem dX0_scan_19 : decode cX0_scan 19 = .ok (.getfield 43, 3) := by decide +kernel
theorem dX0_scan_22 : decode cX0_scan 22 = .ok (.if_icmp .ge 63, 3) := by decide +kernel
theorem dX0_scan_25 : decode cX0_scan 25 = .ok (.aload_n 0, 1) := by decide +kernel
theorem dX0_scan_26 : decode cX0_scan 26 = .ok (.getfield 9, 3) := by decide +kernel
theorem dX0_scan_29 : decode cX0_scan 29 = .ok (.iload_n 2, 1) := by decide +kernel
theorem dX0_scan_30 : decode cX0_scan 30 = .ok (.baload, 1) := by decide +kernel
theorem dX0_scan_31 : decode cX0_scan 31 = .ok (.ifCond .eq 48, 3) := by decide +kernel
theorem dX0_scan_34 : decode cX0_scan 34 = .ok (.iconst 0, 1) := by decide +kernel
theorem dX0_scan_35 : decode cX0_scan 35 = .ok (.istore_n 3, 1) := by decide +kernel
theorem dX0_scan_36 : decode cX0_scan 36 = .ok (.iload_n 3, 1) := by decide +kernel
theorem dX0_scan_37 : decode cX0_scan 37 = .ok (.aload_n 1, 1) := by decide +kernel
theorem dX0_scan_38 : decode cX0_scan 38 = .ok (.getfield 66, 3) := by decide +kernel
theorem dX0_scan_41 : decode cX0_scan 41 = .ok (.iload_n 2, 1) := by decide +kernel
theorem dX0_scan_42 : decode cX0_scan 42 = .ok (.iaload, 1) := by decide +kernel
theorem dX0_scan_43 : decode cX0_scan 43 = .ok (.if_icmp .ge 36, 3) := by decide +kernel
theorem dX0_scan_46 : decode cX0_scan 46 = .ok (.aload_n 0, 1) := by decide +kernel
theorem dX0_scan_47 : decode cX0_scan 47 = .ok (.aload_n 1, 1) := by decide +kernel
theorem dX0_scan_48 : decode cX0_scan 48 = .ok (.aload_n 1, 1) := by decide +kernel
theorem dX0_scan_49 : decode cX0_scan 49 = .ok (.getfield 69, 3) := by decide +kernel
theorem dX0_scan_52 : decode cX0_scan 52 = .ok (.iload_n 2, 1) := by decide +kernel
theorem dX0_scan_53 : decode cX0_scan 53 = .ok (.iconst 1, 1) := by decide +kernel
theorem dX0_scan_54 : decode cX0_scan 54 = .ok (.iadd, 1) := by decide +kernel
theorem dX0_scan_55 : decode cX0_scan 55 = .ok (.iload_n 3, 1) := by decide +kernel
theorem dX0_scan_56 : decode cX0_scan 56 = .ok (.iadd, 1) := by decide +kernel
theorem dX0_scan_57 : decode cX0_scan 57 = .ok (.iaload, 1) := by decide +kernel
theorem dX0_scan_58 : decode cX0_scan 58 = .ok (.invokevirtual 27, 3) := by decide +kernel
theorem dX0_scan_61 : decode cX0_scan 61 = .ok (.aload_n 1, 1) := by decide +kernel
theorem dX0_scan_62 : decode cX0_scan 62 = .ok (.getfield 31, 3) := by decide +kernel
theorem dX0_scan_65 : decode cX0_scan 65 = .ok (.invokevirtual 35, 3) := by decide +kernel
theorem dX0_scan_68 : decode cX0_scan 68 = .ok (.aload_n 0, 1) := by decide +kernel
theorem dX0_scan_69 : decode cX0_scan 69 = .ok (.aload_n 1, 1) := by decide +kernel
theorem dX0_scan_70 : decode cX0_scan 70 = .ok (.invokevirtual 39, 3) := by decide +kernel
theorem dX0_scan_73 : decode cX0_scan 73 = .ok (.iinc 3 1, 3) := by decide +kernel
theorem dX0_scan_76 : decode cX0_scan 76 = .ok (.goto (-40), 3) := by decide +kernel
theorem dX0_scan_79 : decode cX0_scan 79 = .ok (.iinc 2 1, 3) := by decide +kernel
theorem dX0_scan_82 : decode cX0_scan 82 = .ok (.goto (-65), 3) := by decide +kernel
theorem dX0_scan_85 : decode cX0_scan 85 = .ok (.return_, 1) := by decide +kernel
theorem dX0_plan_0 : decode cX0_plan 0 = .ok (.aload_n 1, 1) := by decide +kernel
theorem dX0_plan_1 : decode cX0_plan 1 = .ok (.getfield 72, 3) := by decide +kernel
theorem dX0_plan_4 : decode cX0_plan 4 = .ok (.iconst (-1), 1) := by decide +kernel
theorem dX0_plan_5 : decode cX0_plan 5 = .ok (.invokestatic 75, 3) := by decide +kernel
theorem dX0_plan_8 : decode cX0_plan 8 = .ok (.aload_n 1, 1) := by decide +kernel
theorem dX0_plan_9 : decode cX0_plan 9 = .ok (.getfield 81, 3) := by decide +kernel
theorem dX0_plan_12 : decode cX0_plan 12 = .ok (.iconst 0, 1) := by decide +kernel
theorem dX0_plan_13 : decode cX0_plan 13 = .ok (.invokestatic 75, 3) := by decide +kernel
theorem dX0_plan_16 : decode cX0_plan 16 = .ok (.aload_n 1, 1) := by decide +kernel
theorem dX0_plan_17 : decode cX0_plan 17 = .ok (.getfield 81, 3) := by decide +kernel
theorem dX0_plan_20 : decode cX0_plan 20 = .ok (.iconst 2, 1) := by decide +kernel
theorem dX0_plan_21 : decode cX0_plan 21 = .ok (.aload_n 0, 1) := by decide +kernel
theorem dX0_plan_22 : decode cX0_plan 22 = .ok (.getfield 63, 3) := by decide +kernel
theorem dX0_plan_25 : decode cX0_plan 25 = .ok (.iastore, 1) := by decide +kernel
theorem dX0_plan_26 : decode cX0_plan 26 = .ok (.aload_n 1, 1) := by decide +kernel
theorem dX0_plan_27 : decode cX0_plan 27 = .ok (.getfield 81, 3) := by decide +kernel
theorem dX0_plan_30 : decode cX0_plan 30 = .ok (.iconst 3, 1) := by decide +kernel
theorem dX0_plan_31 : decode cX0_plan 31 = .ok (.aload_n 0, 1) := by decide +kernel
theorem dX0_plan_32 : decode cX0_plan 32 = .ok (.getfield 60, 3) := by decide +kernel
theorem dX0_plan_35 : decode cX0_plan 35 = .ok (.iastore, 1) := by decide +kernel
theorem dX0_plan_36 : decode cX0_plan 36 = .ok (.iconst 0, 1) := by decide +kernel
theorem dX0_plan_37 : decode cX0_plan 37 = .ok (.istore_n 2, 1) := by decide +kernel
theorem dX0_plan_38 : decode cX0_plan 38 = .ok (.iconst 0, 1) := by decide +kernel
theorem dX0_plan_39 : decode cX0_plan 39 = .ok (.istore_n 3, 1) := by decide +kernel
theorem dX0_plan_40 : decode cX0_plan 40 = .ok (.iload_n 3, 1) := by decide +kernel
theorem dX0_plan_41 : decode cX0_plan 41 = .ok (.aload_n 1, 1) := by decide +kernel
theorem dX0_plan_42 : decode cX0_plan 42 = .ok (.getfield 43, 3) := by decide +kernel
theorem dX0_plan_45 : decode cX0_plan 45 = .ok (.if_icmp .ge 50, 3) := by decide +kernel
theorem dX0_plan_48 : decode cX0_plan 48 = .ok (.aload_n 0, 1) := by decide +kernel
theorem dX0_plan_49 : decode cX0_plan 49 = .ok (.getfield 9, 3) := by decide +kernel
theorem dX0_plan_52 : decode cX0_plan 52 = .ok (.iload_n 3, 1) := by decide +kernel
theorem dX0_plan_53 : decode cX0_plan 53 = .ok (.baload, 1) := by decide +kernel
theorem dX0_plan_54 : decode cX0_plan 54 = .ok (.ifCond .eq 35, 3) := by decide +kernel
theorem dX0_plan_57 : decode cX0_plan 57 = .ok (.aload_n 1, 1) := by decide +kernel
theorem dX0_plan_58 : decode cX0_plan 58 = .ok (.iload_n 3, 1) := by decide +kernel
theorem dX0_plan_59 : decode cX0_plan 59 = .ok (.invokevirtual 46, 3) := by decide +kernel
theorem dX0_plan_62 : decode cX0_plan 62 = .ok (.ifCond .eq 7, 3) := by decide +kernel
theorem dX0_plan_65 : decode cX0_plan 65 = .ok (.iload_n 3, 1) := by decide +kernel
theorem dX0_plan_66 : decode cX0_plan 66 = .ok (.goto 4, 3) := by decide +kernel
theorem dX0_plan_69 : decode cX0_plan 69 = .ok (.iload_n 2, 1) := by decide +kernel
theorem dX0_plan_70 : decode cX0_plan 70 = .ok (.istore 4, 2) := by decide +kernel
theorem dX0_plan_72 : decode cX0_plan 72 = .ok (.aload_n 0, 1) := by decide +kernel
theorem dX0_plan_73 : decode cX0_plan 73 = .ok (.aload_n 1, 1) := by decide +kernel
theorem dX0_plan_74 : decode cX0_plan 74 = .ok (.iload_n 3, 1) := by decide +kernel
theorem dX0_plan_75 : decode cX0_plan 75 = .ok (.iload 4, 2) := by decide +kernel
theorem dX0_plan_77 : decode cX0_plan 77 = .ok (.invokevirtual 84, 3) := by decide +kernel
theorem dX0_plan_80 : decode cX0_plan 80 = .ok (.iload 4, 2) := by decide +kernel
theorem dX0_plan_82 : decode cX0_plan 82 = .ok (.aload_n 1, 1) := by decide +kernel
theorem dX0_plan_83 : decode cX0_plan 83 = .ok (.iload_n 3, 1) := by decide +kernel
theorem dX0_plan_84 : decode cX0_plan 84 = .ok (.invokevirtual 88, 3) := by decide +kernel
theorem dX0_plan_87 : decode cX0_plan 87 = .ok (.iadd, 1) := by decide +kernel
theorem dX0_plan_88 : decode cX0_plan 88 = .ok (.istore_n 2, 1) := by decide +kernel
theorem dX0_plan_89 : decode cX0_plan 89 = .ok (.iinc 3 1, 3) := by decide +kernel
theorem dX0_plan_92 : decode cX0_plan 92 = .ok (.goto (-52), 3) := by decide +kernel
theorem dX0_plan_95 : decode cX0_plan 95 = .ok (.return_, 1) := by decide +kernel
theorem dX0_planObject_0 : decode cX0_planObject 0 = .ok (.aload_n 1, 1) := by decide +kernel
theorem dX0_planObject_1 : decode cX0_planObject 1 = .ok (.iload_n 2, 1) := by decide +kernel
theorem dX0_planObject_2 : decode cX0_planObject 2 = .ok (.invokevirtual 88, 3) := by decide +kernel
theorem dX0_planObject_5 : decode cX0_planObject 5 = .ok (.istore 4, 2) := by decide +kernel
theorem dX0_planObject_7 : decode cX0_planObject 7 = .ok (.iconst 0, 1) := by decide +kernel
theorem dX0_planObject_8 : decode cX0_planObject 8 = .ok (.istore 5, 2) := by decide +kernel
theorem dX0_planObject_10 : decode cX0_planObject 10 = .ok (.iload 5, 2) := by decide +kernel
theorem dX0_planObject_12 : decode cX0_planObject 12 = .ok (.iload 4, 2) := by decide +kernel
theorem dX0_planObject_14 : decode cX0_planObject 14 = .ok (.if_icmp .ge 22, 3) := by decide +kernel
theorem dX0_planObject_17 : decode cX0_planObject 17 = .ok (.aload_n 1, 1) := by decide +kernel
theorem dX0_planObject_18 : decode cX0_planObject 18 = .ok (.getfield 72, 3) := by decide +kernel
theorem dX0_planObject_21 : decode cX0_planObject 21 = .ok (.iload_n 2, 1) := by decide +kernel
theorem dX0_planObject_22 : decode cX0_planObject 22 = .ok (.iload 5, 2) := by decide +kernel
theorem dX0_planObject_24 : decode cX0_planObject 24 = .ok (.iadd, 1) := by decide +kernel
theorem dX0_planObject_25 : decode cX0_planObject 25 = .ok (.iload_n 3, 1) := by decide +kernel
theorem dX0_planObject_26 : decode cX0_planObject 26 = .ok (.iload 5, 2) := by decide +kernel
theorem dX0_planObject_28 : decode cX0_planObject 28 = .ok (.iadd, 1) := by decide +kernel
theorem dX0_planObject_29 : decode cX0_planObject 29 = .ok (.iastore, 1) := by decide +kernel
theorem dX0_planObject_30 : decode cX0_planObject 30 = .ok (.iinc 5 1, 3) := by decide +kernel
theorem dX0_planObject_33 : decode cX0_planObject 33 = .ok (.goto (-23), 3) := by decide +kernel
theorem dX0_planObject_36 : decode cX0_planObject 36 = .ok (.aload_n 1, 1) := by decide +kernel
theorem dX0_planObject_37 : decode cX0_planObject 37 = .ok (.getfield 81, 3) := by decide +kernel
theorem dX0_planObject_40 : decode cX0_planObject 40 = .ok (.iconst 0, 1) := by decide +kernel
theorem dX0_planObject_41 : decode cX0_planObject 41 = .ok (.dup2, 1) := by decide +kernel
theorem dX0_planObject_42 : decode cX0_planObject 42 = .ok (.iaload, 1) := by decide +kernel
theorem dX0_planObject_43 : decode cX0_planObject 43 = .ok (.iconst 1, 1) := by decide +kernel
theorem dX0_planObject_44 : decode cX0_planObject 44 = .ok (.iadd, 1) := by decide +kernel
theorem dX0_planObject_45 : decode cX0_planObject 45 = .ok (.iastore, 1) := by decide +kernel
theorem dX0_planObject_46 : decode cX0_planObject 46 = .ok (.aload_n 1, 1) := by decide +kernel
theorem dX0_planObject_47 : decode cX0_planObject 47 = .ok (.getfield 81, 3) := by decide +kernel
theorem dX0_planObject_50 : decode cX0_planObject 50 = .ok (.iconst 1, 1) := by decide +kernel
theorem dX0_planObject_51 : decode cX0_planObject 51 = .ok (.dup2, 1) := by decide +kernel
theorem dX0_planObject_52 : decode cX0_planObject 52 = .ok (.iaload, 1) := by decide +kernel
theorem dX0_planObject_53 : decode cX0_planObject 53 = .ok (.iload 4, 2) := by decide +kernel
theorem dX0_planObject_55 : decode cX0_planObject 55 = .ok (.iadd, 1) := by decide +kernel
theorem dX0_planObject_56 : decode cX0_planObject 56 = .ok (.iastore, 1) := by decide +kernel
theorem dX0_planObject_57 : decode cX0_planObject 57 = .ok (.iload_n 2, 1) := by decide +kernel
theorem dX0_planObject_58 : decode cX0_planObject 58 = .ok (.iload_n 3, 1) := by decide +kernel
theorem dX0_planObject_59 : decode cX0_planObject 59 = .ok (.if_icmp .eq 28, 3) := by decide +kernel
theorem dX0_planObject_62 : decode cX0_planObject 62 = .ok (.aload_n 1, 1) := by decide +kernel
theorem dX0_planObject_63 : decode cX0_planObject 63 = .ok (.getfield 81, 3) := by decide +kernel
theorem dX0_planObject_66 : decode cX0_planObject 66 = .ok (.iconst 4, 1) := by decide +kernel
theorem dX0_planObject_67 : decode cX0_planObject 67 = .ok (.dup2, 1) := by decide +kernel
theorem dX0_planObject_68 : decode cX0_planObject 68 = .ok (.iaload, 1) := by decide +kernel
theorem dX0_planObject_69 : decode cX0_planObject 69 = .ok (.iconst 1, 1) := by decide +kernel
theorem dX0_planObject_70 : decode cX0_planObject 70 = .ok (.iadd, 1) := by decide +kernel
theorem dX0_planObject_71 : decode cX0_planObject 71 = .ok (.iastore, 1) := by decide +kernel
theorem dX0_planObject_72 : decode cX0_planObject 72 = .ok (.aload_n 1, 1) := by decide +kernel
theorem dX0_planObject_73 : decode cX0_planObject 73 = .ok (.getfield 81, 3) := by decide +kernel
theorem dX0_planObject_76 : decode cX0_planObject 76 = .ok (.iconst 5, 1) := by decide +kernel
theorem dX0_planObject_77 : decode cX0_planObject 77 = .ok (.dup2, 1) := by decide +kernel
theorem dX0_planObject_78 : decode cX0_planObject 78 = .ok (.iaload, 1) := by decide +kernel
theorem dX0_planObject_79 : decode cX0_planObject 79 = .ok (.iload 4, 2) := by decide +kernel
theorem dX0_planObject_81 : decode cX0_planObject 81 = .ok (.iload_n 2, 1) := by decide +kernel
theorem dX0_planObject_82 : decode cX0_planObject 82 = .ok (.iload_n 3, 1) := by decide +kernel
theorem dX0_planObject_83 : decode cX0_planObject 83 = .ok (.isub, 1) := by decide +kernel
theorem dX0_planObject_84 : decode cX0_planObject 84 = .ok (.imul, 1) := by decide +kernel
theorem dX0_planObject_85 : decode cX0_planObject 85 = .ok (.iadd, 1) := by decide +kernel
theorem dX0_planObject_86 : decode cX0_planObject 86 = .ok (.iastore, 1) := by decide +kernel
theorem dX0_planObject_87 : decode cX0_planObject 87 = .ok (.return_, 1) := by decide +kernel
theorem dX0_redirect_0 : decode cX0_redirect 0 = .ok (.aload_n 0, 1) := by decide +kernel
theorem dX0_redirect_1 : decode cX0_redirect 1 = .ok (.aload_n 1, 1) := by decide +kernel
theorem dX0_redirect_2 : decode cX0_redirect 2 = .ok (.aload_n 1, 1) := by decide +kernel
theorem dX0_redirect_3 : decode cX0_redirect 3 = .ok (.getfield 22, 3) := by decide +kernel
theorem dX0_redirect_6 : decode cX0_redirect 6 = .ok (.iconst 0, 1) := by decide +kernel
theorem dX0_redirect_7 : decode cX0_redirect 7 = .ok (.bipush 6, 2) := by decide +kernel
theorem dX0_redirect_9 : decode cX0_redirect 9 = .ok (.invokevirtual 91, 3) := by decide +kernel
theorem dX0_redirect_12 : decode cX0_redirect 12 = .ok (.aload_n 0, 1) := by decide +kernel
theorem dX0_redirect_13 : decode cX0_redirect 13 = .ok (.aload_n 1, 1) := by decide +kernel
theorem dX0_redirect_14 : decode cX0_redirect 14 = .ok (.aload_n 1, 1) := by decide +kernel
theorem dX0_redirect_15 : decode cX0_redirect 15 = .ok (.getfield 95, 3) := by decide +kernel
theorem dX0_redirect_18 : decode cX0_redirect 18 = .ok (.iconst 0, 1) := by decide +kernel
theorem dX0_redirect_19 : decode cX0_redirect 19 = .ok (.iconst 4, 1) := by decide +kernel
theorem dX0_redirect_20 : decode cX0_redirect 20 = .ok (.invokevirtual 91, 3) := by decide +kernel
theorem dX0_redirect_23 : decode cX0_redirect 23 = .ok (.iconst 0, 1) := by decide +kernel
theorem dX0_redirect_24 : decode cX0_redirect 24 = .ok (.istore_n 2, 1) := by decide +kernel
theorem dX0_redirect_25 : decode cX0_redirect 25 = .ok (.iload_n 2, 1) := by decide +kernel
theorem dX0_redirect_26 : decode cX0_redirect 26 = .ok (.aload_n 1, 1) := by decide +kernel
theorem dX0_redirect_27 : decode cX0_redirect 27 = .ok (.getfield 43, 3) := by decide +kernel
theorem dX0_redirect_30 : decode cX0_redirect 30 = .ok (.if_icmp .ge 40, 3) := by decide +kernel
theorem dX0_redirect_33 : decode cX0_redirect 33 = .ok (.aload_n 0, 1) := by decide +kernel
theorem dX0_redirect_34 : decode cX0_redirect 34 = .ok (.getfield 9, 3) := by decide +kernel
theorem dX0_redirect_37 : decode cX0_redirect 37 = .ok (.iload_n 2, 1) := by decide +kernel
theorem dX0_redirect_38 : decode cX0_redirect 38 = .ok (.baload, 1) := by decide +kernel
theorem dX0_redirect_39 : decode cX0_redirect 39 = .ok (.ifCond .eq 25, 3) := by decide +kernel
theorem dX0_redirect_42 : decode cX0_redirect 42 = .ok (.aload_n 0, 1) := by decide +kernel
theorem dX0_redirect_43 : decode cX0_redirect 43 = .ok (.aload_n 1, 1) := by decide +kernel
theorem dX0_redirect_44 : decode cX0_redirect 44 = .ok (.aload_n 1, 1) := by decide +kernel
theorem dX0_redirect_45 : decode cX0_redirect 45 = .ok (.getfield 69, 3) := by decide +kernel
theorem dX0_redirect_48 : decode cX0_redirect 48 = .ok (.iload_n 2, 1) := by decide +kernel
theorem dX0_redirect_49 : decode cX0_redirect 49 = .ok (.iconst 1, 1) := by decide +kernel
theorem dX0_redirect_50 : decode cX0_redirect 50 = .ok (.iadd, 1) := by decide +kernel
theorem dX0_redirect_51 : decode cX0_redirect 51 = .ok (.iload_n 2, 1) := by decide +kernel
theorem dX0_redirect_52 : decode cX0_redirect 52 = .ok (.iconst 1, 1) := by decide +kernel
theorem dX0_redirect_53 : decode cX0_redirect 53 = .ok (.iadd, 1) := by decide +kernel
theorem dX0_redirect_54 : decode cX0_redirect 54 = .ok (.aload_n 1, 1) := by decide +kernel
theorem dX0_redirect_55 : decode cX0_redirect 55 = .ok (.getfield 66, 3) := by decide +kernel
theorem dX0_redirect_58 : decode cX0_redirect 58 = .ok (.iload_n 2, 1) := by decide +kernel
theorem dX0_redirect_59 : decode cX0_redirect 59 = .ok (.iaload, 1) := by decide +kernel
theorem dX0_redirect_60 : decode cX0_redirect 60 = .ok (.iadd, 1) := by decide +kernel
theorem dX0_redirect_61 : decode cX0_redirect 61 = .ok (.invokevirtual 91, 3) := by decide +kernel
theorem dX0_redirect_64 : decode cX0_redirect 64 = .ok (.iinc 2 1, 3) := by decide +kernel
theorem dX0_redirect_67 : decode cX0_redirect 67 = .ok (.goto (-42), 3) := by decide +kernel
theorem dX0_redirect_70 : decode cX0_redirect 70 = .ok (.return_, 1) := by decide +kernel
theorem dX0_redirectRow_0 : decode cX0_redirectRow 0 = .ok (.iload_n 3, 1) := by decide +kernel
theorem dX0_redirectRow_1 : decode cX0_redirectRow 1 = .ok (.istore 5, 2) := by decide +kernel
theorem dX0_redirectRow_3 : decode cX0_redirectRow 3 = .ok (.iload 5, 2) := by decide +kernel
theorem dX0_redirectRow_5 : decode cX0_redirectRow 5 = .ok (.iload 4, 2) := by decide +kernel
theorem dX0_redirectRow_7 : decode cX0_redirectRow 7 = .ok (.if_icmp .ge 44, 3) := by decide +kernel
theorem dX0_redirectRow_10 : decode cX0_redirectRow 10 = .ok (.iload 5, 2) := by decide +kernel
theorem dX0_redirectRow_12 : decode cX0_redirectRow 12 = .ok (.aload_n 2, 1) := by decide +kernel
theorem dX0_redirectRow_13 : decode cX0_redirectRow 13 = .ok (.arraylength, 1) := by decide +kernel
theorem dX0_redirectRow_14 : decode cX0_redirectRow 14 = .ok (.if_icmp .ge 37, 3) := by decide +kernel
theorem dX0_redirectRow_17 : decode cX0_redirectRow 17 = .ok (.aload_n 2, 1) := by decide +kernel
theorem dX0_redirectRow_18 : decode cX0_redirectRow 18 = .ok (.iload 5, 2) := by decide +kernel
theorem dX0_redirectRow_20 : decode cX0_redirectRow 20 = .ok (.aload_n 1, 1) := by decide +kernel
theorem dX0_redirectRow_21 : decode cX0_redirectRow 21 = .ok (.aload_n 2, 1) := by decide +kernel
theorem dX0_redirectRow_22 : decode cX0_redirectRow 22 = .ok (.iload 5, 2) := by decide +kernel
theorem dX0_redirectRow_24 : decode cX0_redirectRow 24 = .ok (.iaload, 1) := by decide +kernel
theorem dX0_redirectRow_25 : decode cX0_redirectRow 25 = .ok (.invokevirtual 98, 3) := by decide +kernel
theorem dX0_redirectRow_28 : decode cX0_redirectRow 28 = .ok (.ifCond .eq 15, 3) := by decide +kernel
theorem dX0_redirectRow_31 : decode cX0_redirectRow 31 = .ok (.aload_n 1, 1) := by decide +kernel
theorem dX0_redirectRow_32 : decode cX0_redirectRow 32 = .ok (.getfield 72, 3) := by decide +kernel
theorem dX0_redirectRow_35 : decode cX0_redirectRow 35 = .ok (.aload_n 2, 1) := by decide +kernel
theorem dX0_redirectRow_36 : decode cX0_redirectRow 36 = .ok (.iload 5, 2) := by decide +kernel
theorem dX0_redirectRow_38 : decode cX0_redirectRow 38 = .ok (.iaload, 1) := by decide +kernel
theorem dX0_redirectRow_39 : decode cX0_redirectRow 39 = .ok (.iaload, 1) := by decide +kernel
theorem dX0_redirectRow_40 : decode cX0_redirectRow 40 = .ok (.goto 4, 3) := by decide +kernel
theorem dX0_redirectRow_43 : decode cX0_redirectRow 43 = .ok (.iconst (-1), 1) := by decide +kernel
theorem dX0_redirectRow_44 : decode cX0_redirectRow 44 = .ok (.iastore, 1) := by decide +kernel
theorem dX0_redirectRow_45 : decode cX0_redirectRow 45 = .ok (.iinc 5 1, 3) := by decide +kernel
theorem dX0_redirectRow_48 : decode cX0_redirectRow 48 = .ok (.goto (-45), 3) := by decide +kernel
theorem dX0_redirectRow_51 : decode cX0_redirectRow 51 = .ok (.return_, 1) := by decide +kernel
theorem dX0_slide_0 : decode cX0_slide 0 = .ok (.aload_n 1, 1) := by decide +kernel
theorem dX0_slide_1 : decode cX0_slide 1 = .ok (.getfield 101, 3) := by decide +kernel
theorem dX0_slide_4 : decode cX0_slide 4 = .ok (.iconst (-1), 1) := by decide +kernel
theorem dX0_slide_5 : decode cX0_slide 5 = .ok (.invokestatic 75, 3) := by decide +kernel
theorem dX0_slide_8 : decode cX0_slide 8 = .ok (.iconst 0, 1) := by decide +kernel
theorem dX0_slide_9 : decode cX0_slide 9 = .ok (.istore_n 2, 1) := by decide +kernel
theorem dX0_slide_10 : decode cX0_slide 10 = .ok (.iload_n 2, 1) := by decide +kernel
theorem dX0_slide_11 : decode cX0_slide 11 = .ok (.aload_n 1, 1) := by decide +kernel
theorem dX0_slide_12 : decode cX0_slide 12 = .ok (.getfield 43, 3) := by decide +kernel
theorem dX0_slide_15 : decode cX0_slide 15 = .ok (.if_icmp .ge 42, 3) := by decide +kernel
theorem dX0_slide_18 : decode cX0_slide 18 = .ok (.aload_n 0, 1) := by decide +kernel
theorem dX0_slide_19 : decode cX0_slide 19 = .ok (.getfield 9, 3) := by decide +kernel
theorem dX0_slide_22 : decode cX0_slide 22 = .ok (.iload_n 2, 1) := by decide +kernel
theorem dX0_slide_23 : decode cX0_slide 23 = .ok (.baload, 1) := by decide +kernel
theorem dX0_slide_24 : decode cX0_slide 24 = .ok (.ifCond .eq 27, 3) := by decide +kernel
theorem dX0_slide_27 : decode cX0_slide 27 = .ok (.aload_n 1, 1) := by decide +kernel
theorem dX0_slide_28 : decode cX0_slide 28 = .ok (.aload_n 1, 1) := by decide +kernel
theorem dX0_slide_29 : decode cX0_slide 29 = .ok (.getfield 72, 3) := by decide +kernel
theorem dX0_slide_32 : decode cX0_slide 32 = .ok (.iload_n 2, 1) := by decide +kernel
theorem dX0_slide_33 : decode cX0_slide 33 = .ok (.iaload, 1) := by decide +kernel
theorem dX0_slide_34 : decode cX0_slide 34 = .ok (.invokevirtual 98, 3) := by decide +kernel
theorem dX0_slide_37 : decode cX0_slide 37 = .ok (.ifCond .eq 14, 3) := by decide +kernel
theorem dX0_slide_40 : decode cX0_slide 40 = .ok (.aload_n 1, 1) := by decide +kernel
theorem dX0_slide_41 : decode cX0_slide 41 = .ok (.iload_n 2, 1) := by decide +kernel
theorem dX0_slide_42 : decode cX0_slide 42 = .ok (.aload_n 1, 1) := by decide +kernel
theorem dX0_slide_43 : decode cX0_slide 43 = .ok (.getfield 72, 3) := by decide +kernel
theorem dX0_slide_46 : decode cX0_slide 46 = .ok (.iload_n 2, 1) := by decide +kernel
theorem dX0_slide_47 : decode cX0_slide 47 = .ok (.iaload, 1) := by decide +kernel
theorem dX0_slide_48 : decode cX0_slide 48 = .ok (.invokevirtual 104, 3) := by decide +kernel
theorem dX0_slide_51 : decode cX0_slide 51 = .ok (.iinc 2 1, 3) := by decide +kernel
theorem dX0_slide_54 : decode cX0_slide 54 = .ok (.goto (-44), 3) := by decide +kernel
theorem dX0_slide_57 : decode cX0_slide 57 = .ok (.return_, 1) := by decide +kernel
set_option maxRecDepth 20000 in
theorem ggX1_empty_J7_fill_53178 : GoodIn wsX1_empty wsJ7_fill_53178 := goodIn_r _ [12] (by decide +kernel) (by decide +kernel)
set_option maxRecDepth 20000 in
theorem gX1_empty_J7_fill_53178 : GoodIn wsX1_empty (va_wsS RX1 58 yJ7_fill_53178 wsJ7_fill_53178) := goodIn_app (goodIn_of _ (by decide +kernel)) ggX1_empty_J7_fill_53178
set_option maxRecDepth 20000 in
theorem ggX1_objectAt_X1_isAddress : GoodIn wsX1_objectAt wsX1_isAddress := goodIn_r _ [6, 7, 8, 9, 10, 11, 12, 13, 14, 15, 16, 17, 18, 19, 20, 21, 22] (by decide +kernel) (by decide +kernel)
set_option maxRecDepth 20000 in
theorem gX1_objectAt_X1_isAddress : GoodIn wsX1_objectAt (wsV RX1 70 RX1 yX1_isAddress wsX1_isAddress) := goodIn_app (goodIn_of _ (by decide +kernel)) ggX1_objectAt_X1_isAddress
set_option maxRecDepth 20000 in
theorem ggX1_isObject_X1_isAddress : GoodIn wsX1_isObject wsX1_isAddress := goodIn_r _ [6, 7, 8, 9, 10, 11, 12, 13, 14, 15, 16, 17, 18, 19, 20, 21, 22] (by decide +kernel) (by decide +kernel)
set_option maxRecDepth 20000 in
theorem gX1_isObject_X1_isAddress : GoodIn wsX1_isObject (wsV RX1 70 RX1 yX1_isAddress wsX1_isAddress) := goodIn_app (goodIn_of _ (by decide +kernel)) ggX1_isObject_X1_isAddress
set_option maxRecDepth 20000 in
theorem ggX1_isPinned_X1_isObject : GoodIn wsX1_isPinned wsX1_isObject := goodIn_r _ [6, 7, 8, 9, 10, 5, 11, 12, 13, 14, 15, 16, 17, 18, 19, 20, 21, 22, 23, 24, 25, 26, 27] (by decide +kernel) (by decide +kernel)
set_option maxRecDepth 20000 in
theorem gX1_isPinned_X1_isObject : GoodIn wsX1_isPinned (wsV RX1 74 RX1 yX1_isObject wsX1_isObject) := goodIn_app (goodIn_of _ (by decide +kernel)) ggX1_isPinned_X1_isObject
set_option maxRecDepth 20000 in
theorem ggX1_isReference_X1_objectAt : GoodIn wsX1_isReference wsX1_objectAt := goodIn_r _ [5, 6, 7, 8, 9, 4, 10, 11, 12, 13, 14, 15, 16, 17, 18, 19, 20, 21, 22, 23, 24, 25, 26] (by decide +kernel) (by decide +kernel)
set_option maxRecDepth 20000 in
theorem gX1_isReference_X1_objectAt : GoodIn wsX1_isReference (wsV RX1 77 RX1 yX1_objectAt wsX1_objectAt) := goodIn_app (goodIn_of _ (by decide +kernel)) ggX1_isReference_X1_objectAt
set_option maxRecDepth 20000 in
theorem ggX1_objectFrom_X1_isObject : GoodIn wsX1_objectFrom wsX1_isObject := goodIn_r _ [6, 7, 8, 9, 10, 5, 11, 1, 12, 13, 14, 15, 16, 17, 18, 19, 20, 21, 22, 23, 24, 25, 26] (by decide +kernel) (by decide +kernel)
set_option maxRecDepth 20000 in
theorem gX1_objectFrom_X1_isObject : GoodIn wsX1_objectFrom (wsV RX1 74 RX1 yX1_isObject wsX1_isObject) := goodIn_app (goodIn_of _ (by decide +kernel)) ggX1_objectFrom_X1_isObject
set_option maxRecDepth 20000 in
theorem ggX1_place_J7_fill_fda19 : GoodIn wsX1_place wsJ7_fill_fda19 := goodIn_r _ [10, 11, 12, 9, 13] (by decide +kernel) (by decide +kernel)
set_option maxRecDepth 20000 in
theorem gX1_place_J7_fill_fda19 : GoodIn wsX1_place (va_wsS RX1 81 yJ7_fill_fda19 wsJ7_fill_fda19) := goodIn_app (goodIn_of _ (by decide +kernel)) ggX1_place_J7_fill_fda19
set_option maxRecDepth 20000 in
theorem ggX1_place_X1_own : GoodIn wsX1_place wsX1_own := goodIn_r _ [18, 19, 20, 21, 22, 17, 23, 1, 2, 7, 8, 9, 10, 11, 12, 13, 24, 25, 26, 27, 28, 29, 30, 31, 32, 33, 34, 35, 36, 37, 38] (by decide +kernel) (by decide +kernel)
set_option maxRecDepth 20000 in
theorem gX1_place_X1_own : GoodIn wsX1_place (wsV RX1 84 RX1 yX1_own wsX1_own) := goodIn_app (goodIn_of _ (by decide +kernel)) ggX1_place_X1_own
set_option maxRecDepth 20000 in
theorem ggX1_shift_X1_sizeOf : GoodIn wsX1_shift wsX1_sizeOf := goodIn_r _ [14, 1, 2, 27, 28, 29, 30, 31, 32, 33, 34, 35, 36, 37, 38, 39, 40, 41] (by decide +kernel) (by decide +kernel)
set_option maxRecDepth 20000 in
theorem gX1_shift_X1_sizeOf : GoodIn wsX1_shift (wsV RX1 88 RX1 yX1_sizeOf wsX1_sizeOf) := goodIn_app (goodIn_of _ (by decide +kernel)) ggX1_shift_X1_sizeOf
set_option maxRecDepth 20000 in
theorem ggX1_shift_X1_own : GoodIn wsX1_shift wsX1_own := goodIn_r _ [18, 19, 10, 11, 12, 13, 14, 1, 2, 20, 21, 22, 23, 24, 25, 26, 27, 28, 29, 30, 31, 32, 33, 34, 35, 36, 37, 38, 39, 40, 41] (by decide +kernel) (by decide +kernel)
set_option maxRecDepth 20000 in
theorem gX1_shift_X1_own : GoodIn wsX1_shift (wsV RX1 84 RX1 yX1_own wsX1_own) := goodIn_app (goodIn_of _ (by decide +kernel)) ggX1_shift_X1_own
set_option maxRecDepth 20000 in
theorem ggX1_own_X1_sizeOf : GoodIn wsX1_own wsX1_sizeOf := goodIn_r _ [6, 7, 8, 16, 17, 18, 19, 20, 21, 22, 23, 24, 25, 26, 27, 28, 29, 30] (by decide +kernel) (by decide +kernel)
set_option maxRecDepth 20000 in
theorem gX1_own_X1_sizeOf : GoodIn wsX1_own (wsV RX1 88 RX1 yX1_sizeOf wsX1_sizeOf) := goodIn_app (goodIn_of _ (by decide +kernel)) ggX1_own_X1_sizeOf
set_option maxRecDepth 20000 in
theorem ggX1_own_J7_fill_fda19 : GoodIn wsX1_own wsJ7_fill_fda19 := goodIn_r _ [12, 13, 14, 11, 15] (by decide +kernel) (by decide +kernel)
set_option maxRecDepth 20000 in
theorem gX1_own_J7_fill_fda19 : GoodIn wsX1_own (va_wsS RX1 81 yJ7_fill_fda19 wsJ7_fill_fda19) := goodIn_app (goodIn_of _ (by decide +kernel)) ggX1_own_J7_fill_fda19
set_option maxRecDepth 20000 in
theorem ggX1_objectCount_X1_isObject : GoodIn wsX1_objectCount wsX1_isObject := goodIn_r _ [6, 7, 8, 9, 10, 5, 11, 1, 12, 13, 14, 15, 16, 17, 18, 19, 20, 21, 22, 23, 24, 25, 26] (by decide +kernel) (by decide +kernel)
set_option maxRecDepth 20000 in
theorem gX1_objectCount_X1_isObject : GoodIn wsX1_objectCount (wsV RX1 74 RX1 yX1_isObject wsX1_isObject) := goodIn_app (goodIn_of _ (by decide +kernel)) ggX1_objectCount_X1_isObject
set_option maxRecDepth 20000 in
theorem ggX1_pinnedCount_X1_isPinned : GoodIn wsX1_pinnedCount wsX1_isPinned := goodIn_r _ [6, 7, 8, 9, 10, 5, 11, 12, 13, 14, 15, 16, 1, 17, 18, 19, 20, 21, 22, 23, 24, 25, 26, 27, 28, 29, 30, 31] (by decide +kernel) (by decide +kernel)
set_option maxRecDepth 20000 in
theorem gX1_pinnedCount_X1_isPinned : GoodIn wsX1_pinnedCount (wsV RX1 91 RX1 yX1_isPinned wsX1_isPinned) := goodIn_app (goodIn_of _ (by decide +kernel)) ggX1_pinnedCount_X1_isPinned
theorem dX1_init_0 : decode cX1_init 0 = .ok (.aload_n 0, 1) := by decide +kernel
theorem dX1_init_1 : decode cX1_init 1 = .ok (.invokespecial 3, 3) := by decide +kernel
theorem dX1_init_4 : decode cX1_init 4 = .ok (.aload_n 0, 1) := by decide +kernel
theorem dX1_init_5 : decode cX1_init 5 = .ok (.sipush 200, 3) := by decide +kernel
theorem dX1_init_8 : decode cX1_init 8 = .ok (.newarray .int, 2) := by decide +kernel
theorem dX1_init_10 : decode cX1_init 10 = .ok (.putfield 9, 3) := by decide +kernel
theorem dX1_init_13 : decode cX1_init 13 = .ok (.aload_n 0, 1) := by decide +kernel
theorem dX1_init_14 : decode cX1_init 14 = .ok (.sipush 200, 3) := by decide +kernel
theorem dX1_init_17 : decode cX1_init 17 = .ok (.newarray .int, 2) := by decide +kernel
theorem dX1_init_19 : decode cX1_init 19 = .ok (.putfield 15, 3) := by decide +kernel
theorem dX1_init_22 : decode cX1_init 22 = .ok (.aload_n 0, 1) := by decide +kernel
theorem dX1_init_23 : decode cX1_init 23 = .ok (.sipush 200, 3) := by decide +kernel
theorem dX1_init_26 : decode cX1_init 26 = .ok (.newarray .int, 2) := by decide +kernel
theorem dX1_init_28 : decode cX1_init 28 = .ok (.putfield 18, 3) := by decide +kernel
theorem dX1_init_31 : decode cX1_init 31 = .ok (.aload_n 0, 1) := by decide +kernel
theorem dX1_init_32 : decode cX1_init 32 = .ok (.sipush 200, 3) := by decide +kernel
theorem dX1_init_35 : decode cX1_init 35 = .ok (.newarray .int, 2) := by decide +kernel
theorem dX1_init_37 : decode cX1_init 37 = .ok (.putfield 21, 3) := by decide +kernel
theorem dX1_init_40 : decode cX1_init 40 = .ok (.aload_n 0, 1) := by decide +kernel
theorem dX1_init_41 : decode cX1_init 41 = .ok (.sipush 200, 3) := by decide +kernel
theorem dX1_init_44 : decode cX1_init 44 = .ok (.newarray .int, 2) := by decide +kernel
theorem dX1_init_46 : decode cX1_init 46 = .ok (.putfield 24, 3) := by decide +kernel
theorem dX1_init_49 : decode cX1_init 49 = .ok (.aload_n 0, 1) := by decide +kernel
theorem dX1_init_50 : decode cX1_init 50 = .ok (.sipush 200, 3) := by decide +kernel
theorem dX1_init_53 : decode cX1_init 53 = .ok (.newarray .int, 2) := by decide +kernel
theorem dX1_init_55 : decode cX1_init 55 = .ok (.putfield 27, 3) := by decide +kernel
theorem dX1_init_58 : decode cX1_init 58 = .ok (.aload_n 0, 1) := by decide +kernel
theorem dX1_init_59 : decode cX1_init 59 = .ok (.bipush 6, 2) := by decide +kernel
theorem dX1_init_61 : decode cX1_init 61 = .ok (.newarray .int, 2) := by decide +kernel
theorem dX1_init_63 : decode cX1_init 63 = .ok (.putfield 30, 3) := by decide +kernel
theorem dX1_init_66 : decode cX1_init 66 = .ok (.aload_n 0, 1) := by decide +kernel
theorem dX1_init_67 : decode cX1_init 67 = .ok (.iconst 4, 1) := by decide +kernel
theorem dX1_init_68 : decode cX1_init 68 = .ok (.newarray .int, 2) := by decide +kernel
theorem dX1_init_70 : decode cX1_init 70 = .ok (.putfield 33, 3) := by decide +kernel
theorem dX1_init_73 : decode cX1_init 73 = .ok (.aload_n 0, 1) := by decide +kernel
theorem dX1_init_74 : decode cX1_init 74 = .ok (.sipush 200, 3) := by decide +kernel
theorem dX1_init_77 : decode cX1_init 77 = .ok (.newarray .int, 2) := by decide +kernel
theorem dX1_init_79 : decode cX1_init 79 = .ok (.putfield 36, 3) := by decide +kernel
theorem dX1_init_82 : decode cX1_init 82 = .ok (.aload_n 0, 1) := by decide +kernel
theorem dX1_init_83 : decode cX1_init 83 = .ok (.bipush 6, 2) := by decide +kernel
theorem dX1_init_85 : decode cX1_init 85 = .ok (.newarray .int, 2) := by decide +kernel
theorem dX1_init_87 : decode cX1_init 87 = .ok (.putfield 39, 3) := by decide +kernel
theorem dX1_init_90 : decode cX1_init 90 = .ok (.return_, 1) := by decide +kernel
theorem dX1_empty_0 : decode cX1_empty 0 = .ok (.aload_n 0, 1) := by decide +kernel
theorem dX1_empty_1 : decode cX1_empty 1 = .ok (.iload_n 1, 1) := by decide +kernel
theorem dX1_empty_2 : decode cX1_empty 2 = .ok (.putfield 42, 3) := by decide +kernel
theorem dX1_empty_5 : decode cX1_empty 5 = .ok (.aload_n 0, 1) := by decide +kernel
theorem dX1_empty_6 : decode cX1_empty 6 = .ok (.iload_n 2, 1) := by decide +kernel
theorem dX1_empty_7 : decode cX1_empty 7 = .ok (.putfield 46, 3) := by decide +kernel
theorem dX1_empty_10 : decode cX1_empty 10 = .ok (.aload_n 0, 1) := by decide +kernel
theorem dX1_empty_11 : decode cX1_empty 11 = .ok (.iconst 0, 1) := by decide +kernel
theorem dX1_empty_12 : decode cX1_empty 12 = .ok (.putfield 49, 3) := by decide +kernel
theorem dX1_empty_15 : decode cX1_empty 15 = .ok (.aload_n 0, 1) := by decide +kernel
theorem dX1_empty_16 : decode cX1_empty 16 = .ok (.iconst 0, 1) := by decide +kernel
theorem dX1_empty_17 : decode cX1_empty 17 = .ok (.putfield 52, 3) := by decide +kernel
theorem dX1_empty_20 : decode cX1_empty 20 = .ok (.aload_n 0, 1) := by decide +kernel
theorem dX1_empty_21 : decode cX1_empty 21 = .ok (.iconst 0, 1) := by decide +kernel
theorem dX1_empty_22 : decode cX1_empty 22 = .ok (.putfield 55, 3) := by decide +kernel
theorem dX1_empty_25 : decode cX1_empty 25 = .ok (.aload_n 0, 1) := by decide +kernel
theorem dX1_empty_26 : decode cX1_empty 26 = .ok (.getfield 9, 3) := by decide +kernel
theorem dX1_empty_29 : decode cX1_empty 29 = .ok (.iconst (-1), 1) := by decide +kernel
theorem dX1_empty_30 : decode cX1_empty 30 = .ok (.invokestatic 58, 3) := by decide +kernel
theorem dX1_empty_33 : decode cX1_empty 33 = .ok (.aload_n 0, 1) := by decide +kernel
theorem dX1_empty_34 : decode cX1_empty 34 = .ok (.getfield 30, 3) := by decide +kernel
theorem dX1_empty_37 : decode cX1_empty 37 = .ok (.iconst (-1), 1) := by decide +kernel
theorem dX1_empty_38 : decode cX1_empty 38 = .ok (.invokestatic 58, 3) := by decide +kernel
theorem dX1_empty_41 : decode cX1_empty 41 = .ok (.aload_n 0, 1) := by decide +kernel
theorem dX1_empty_42 : decode cX1_empty 42 = .ok (.getfield 33, 3) := by decide +kernel
theorem dX1_empty_45 : decode cX1_empty 45 = .ok (.iconst (-1), 1) := by decide +kernel
theorem dX1_empty_46 : decode cX1_empty 46 = .ok (.invokestatic 58, 3) := by decide +kernel
theorem dX1_empty_49 : decode cX1_empty 49 = .ok (.return_, 1) := by decide +kernel
theorem dX1_copyFrom_0 : decode cX1_copyFrom 0 = .ok (.aload_n 0, 1) := by decide +kernel
theorem dX1_copyFrom_1 : decode cX1_copyFrom 1 = .ok (.aload_n 1, 1) := by decide +kernel
theorem dX1_copyFrom_2 : decode cX1_copyFrom 2 = .ok (.getfield 42, 3) := by decide +kernel
theorem dX1_copyFrom_5 : decode cX1_copyFrom 5 = .ok (.putfield 42, 3) := by decide +kernel
theorem dX1_copyFrom_8 : decode cX1_copyFrom 8 = .ok (.aload_n 0, 1) := by decide +kernel
theorem dX1_copyFrom_9 : decode cX1_copyFrom 9 = .ok (.aload_n 1, 1) := by decide +kernel
theorem dX1_copyFrom_10 : decode cX1_copyFrom 10 = .ok (.getfield 46, 3) := by decide +kernel
theorem dX1_copyFrom_13 : decode cX1_copyFrom 13 = .ok (.putfield 46, 3) := by decide +kernel
theorem dX1_copyFrom_16 : decode cX1_copyFrom 16 = .ok (.aload_n 0, 1) := by decide +kernel
theorem dX1_copyFrom_17 : decode cX1_copyFrom 17 = .ok (.aload_n 1, 1) := by decide +kernel
theorem dX1_copyFrom_18 : decode cX1_copyFrom 18 = .ok (.getfield 49, 3) := by decide +kernel
theorem dX1_copyFrom_21 : decode cX1_copyFrom 21 = .ok (.putfield 49, 3) := by decide +kernel
theorem dX1_copyFrom_24 : decode cX1_copyFrom 24 = .ok (.aload_n 0, 1) := by decide +kernel
theorem dX1_copyFrom_25 : decode cX1_copyFrom 25 = .ok (.aload_n 1, 1) := by decide +kernel
theorem dX1_copyFrom_26 : decode cX1_copyFrom 26 = .ok (.getfield 52, 3) := by decide +kernel
theorem dX1_copyFrom_29 : decode cX1_copyFrom 29 = .ok (.putfield 52, 3) := by decide +kernel
theorem dX1_copyFrom_32 : decode cX1_copyFrom 32 = .ok (.aload_n 0, 1) := by decide +kernel
theorem dX1_copyFrom_33 : decode cX1_copyFrom 33 = .ok (.aload_n 1, 1) := by decide +kernel
theorem dX1_copyFrom_34 : decode cX1_copyFrom 34 = .ok (.getfield 55, 3) := by decide +kernel
theorem dX1_copyFrom_37 : decode cX1_copyFrom 37 = .ok (.putfield 55, 3) := by decide +kernel
theorem dX1_copyFrom_40 : decode cX1_copyFrom 40 = .ok (.aload_n 1, 1) := by decide +kernel
theorem dX1_copyFrom_41 : decode cX1_copyFrom 41 = .ok (.getfield 9, 3) := by decide +kernel
theorem dX1_copyFrom_44 : decode cX1_copyFrom 44 = .ok (.iconst 0, 1) := by decide +kernel
theorem dX1_copyFrom_45 : decode cX1_copyFrom 45 = .ok (.aload_n 0, 1) := by decide +kernel
theorem dX1_copyFrom_46 : decode cX1_copyFrom 46 = .ok (.getfield 9, 3) := by decide +kernel
theorem dX1_copyFrom_49 : decode cX1_copyFrom 49 = .ok (.iconst 0, 1) := by decide +kernel
theorem dX1_copyFrom_50 : decode cX1_copyFrom 50 = .ok (.sipush 200, 3) := by decide +kernel
theorem dX1_copyFrom_53 : decode cX1_copyFrom 53 = .ok (.invokestatic 64, 3) := by decide +kernel
theorem dX1_copyFrom_56 : decode cX1_copyFrom 56 = .ok (.aload_n 1, 1) := by decide +kernel
theorem dX1_copyFrom_57 : decode cX1_copyFrom 57 = .ok (.getfield 15, 3) := by decide +kernel
theorem dX1_copyFrom_60 : decode cX1_copyFrom 60 = .ok (.iconst 0, 1) := by decide +kernel
theorem dX1_copyFrom_61 : decode cX1_copyFrom 61 = .ok (.aload_n 0, 1) := by decide +kernel
theorem dX1_copyFrom_62 : decode cX1_copyFrom 62 = .ok (.getfield 15, 3) := by decide +kernel
theorem dX1_copyFrom_65 : decode cX1_copyFrom 65 = .ok (.iconst 0, 1) := by decide +kernel
theorem dX1_copyFrom_66 : decode cX1_copyFrom 66 = .ok (.sipush 200, 3) := by decide +kernel
theorem dX1_copyFrom_69 : decode cX1_copyFrom 69 = .ok (.invokestatic 64, 3) := by decide +kernel
theorem dX1_copyFrom_72 : decode cX1_copyFrom 72 = .ok (.aload_n 1, 1) := by decide +kernel
theorem dX1_copyFrom_73 : decode cX1_copyFrom 73 = .ok (.getfield 18, 3) := by decide +kernel
theorem dX1_copyFrom_76 : decode cX1_copyFrom 76 = .ok (.iconst 0, 1) := by decide +kernel
theorem dX1_copyFrom_77 : decode cX1_copyFrom 77 = .ok (.aload_n 0, 1) := by decide +kernel
theorem dX1_copyFrom_78 : decode cX1_copyFrom 78 = .ok (.getfield 18, 3) := by decide +kernel
theorem dX1_copyFrom_81 : decode cX1_copyFrom 81 = .ok (.iconst 0, 1) := by decide +kernel
theorem dX1_copyFrom_82 : decode cX1_copyFrom 82 = .ok (.sipush 200, 3) := by decide +kernel
theorem dX1_copyFrom_85 : decode cX1_copyFrom 85 = .ok (.invokestatic 64, 3) := by decide +kernel
theorem dX1_copyFrom_88 : decode cX1_copyFrom 88 = .ok (.aload_n 1, 1) := by decide +kernel
theorem dX1_copyFrom_89 : decode cX1_copyFrom 89 = .ok (.getfield 21, 3) := by decide +kernel
theorem dX1_copyFrom_92 : decode cX1_copyFrom 92 = .ok (.iconst 0, 1) := by decide +kernel
theorem dX1_copyFrom_93 : decode cX1_copyFrom 93 = .ok (.aload_n 0, 1) := by decide +kernel
theorem dX1_copyFrom_94 : decode cX1_copyFrom 94 = .ok (.getfield 21, 3) := by decide +kernel
theorem dX1_copyFrom_97 : decode cX1_copyFrom 97 = .ok (.iconst 0, 1) := by decide +kernel
theorem dX1_copyFrom_98 : decode cX1_copyFrom 98 = .ok (.sipush 200, 3) := by decide +kernel
theorem dX1_copyFrom_101 : decode cX1_copyFrom 101 = .ok (.invokestatic 64, 3) := by decide +kernel
theorem dX1_copyFrom_104 : decode cX1_copyFrom 104 = .ok (.aload_n 1, 1) := by decide +kernel
theorem dX1_copyFrom_105 : decode cX1_copyFrom 105 = .ok (.getfield 24, 3) := by decide +kernel
theorem dX1_copyFrom_108 : decode cX1_copyFrom 108 = .ok (.iconst 0, 1) := by decide +kernel
theorem dX1_copyFrom_109 : decode cX1_copyFrom 109 = .ok (.aload_n 0, 1) := by decide +kernel
theorem dX1_copyFrom_110 : decode cX1_copyFrom 110 = .ok (.getfield 24, 3) := by decide +kernel
theorem dX1_copyFrom_113 : decode cX1_copyFrom 113 = .ok (.iconst 0, 1) := by decide +kernel
theorem dX1_copyFrom_114 : decode cX1_copyFrom 114 = .ok (.sipush 200, 3) := by decide +kernel
theorem dX1_copyFrom_117 : decode cX1_copyFrom 117 = .ok (.invokestatic 64, 3) := by decide +kernel
theorem dX1_copyFrom_120 : decode cX1_copyFrom 120 = .ok (.aload_n 1, 1) := by decide +kernel
theorem dX1_copyFrom_121 : decode cX1_copyFrom 121 = .ok (.getfield 27, 3) := by decide +kernel
theorem dX1_copyFrom_124 : decode cX1_copyFrom 124 = .ok (.iconst 0, 1) := by decide +kernel
theorem dX1_copyFrom_125 : decode cX1_copyFrom 125 = .ok (.aload_n 0, 1) := by decide +kernel
theorem dX1_copyFrom_126 : decode cX1_copyFrom 126 = .ok (.getfield 27, 3) := by decide +kernel
theorem dX1_copyFrom_129 : decode cX1_copyFrom 129 = .ok (.iconst 0, 1) := by decide +kernel
theorem dX1_copyFrom_130 : decode cX1_copyFrom 130 = .ok (.sipush 200, 3) := by decide +kernel
theorem dX1_copyFrom_133 : decode cX1_copyFrom 133 = .ok (.invokestatic 64, 3) := by decide +kernel
theorem dX1_copyFrom_136 : decode cX1_copyFrom 136 = .ok (.aload_n 1, 1) := by decide +kernel
theorem dX1_copyFrom_137 : decode cX1_copyFrom 137 = .ok (.getfield 30, 3) := by decide +kernel
theorem dX1_copyFrom_140 : decode cX1_copyFrom 140 = .ok (.iconst 0, 1) := by decide +kernel
theorem dX1_copyFrom_141 : decode cX1_copyFrom 141 = .ok (.aload_n 0, 1) := by decide +kernel
theorem dX1_copyFrom_142 : decode cX1_copyFrom 142 = .ok (.getfield 30, 3) := by decide +kernel
theorem dX1_copyFrom_145 : decode cX1_copyFrom 145 = .ok (.iconst 0, 1) := by decide +kernel
theorem dX1_copyFrom_146 : decode cX1_copyFrom 146 = .ok (.bipush 6, 2) := by decide +kernel
theorem dX1_copyFrom_148 : decode cX1_copyFrom 148 = .ok (.invokestatic 64, 3) := by decide +kernel
theorem dX1_copyFrom_151 : decode cX1_copyFrom 151 = .ok (.aload_n 1, 1) := by decide +kernel
theorem dX1_copyFrom_152 : decode cX1_copyFrom 152 = .ok (.getfield 33, 3) := by decide +kernel
theorem dX1_copyFrom_155 : decode cX1_copyFrom 155 = .ok (.iconst 0, 1) := by decide +kernel
theorem dX1_copyFrom_156 : decode cX1_copyFrom 156 = .ok (.aload_n 0, 1) := by decide +kernel
theorem dX1_copyFrom_157 : decode cX1_copyFrom 157 = .ok (.getfield 33, 3) := by decide +kernel
theorem dX1_copyFrom_160 : decode cX1_copyFrom 160 = .ok (.iconst 0, 1) := by decide +kernel
theorem dX1_copyFrom_161 : decode cX1_copyFrom 161 = .ok (.iconst 4, 1) := by decide +kernel
theorem dX1_copyFrom_162 : decode cX1_copyFrom 162 = .ok (.invokestatic 64, 3) := by decide +kernel
theorem dX1_copyFrom_165 : decode cX1_copyFrom 165 = .ok (.aload_n 1, 1) := by decide +kernel
theorem dX1_copyFrom_166 : decode cX1_copyFrom 166 = .ok (.getfield 36, 3) := by decide +kernel
theorem dX1_copyFrom_169 : decode cX1_copyFrom 169 = .ok (.iconst 0, 1) := by decide +kernel
theorem dX1_copyFrom_170 : decode cX1_copyFrom 170 = .ok (.aload_n 0, 1) := by decide +kernel
theorem dX1_copyFrom_171 : decode cX1_copyFrom 171 = .ok (.getfield 36, 3) := by decide +kernel
theorem dX1_copyFrom_174 : decode cX1_copyFrom 174 = .ok (.iconst 0, 1) := by decide +kernel
theorem dX1_copyFrom_175 : decode cX1_copyFrom 175 = .ok (.sipush 200, 3) := by decide +kernel
theorem dX1_copyFrom_178 : decode cX1_copyFrom 178 = .ok (.invokestatic 64, 3) := by decide +kernel
theorem dX1_copyFrom_181 : decode cX1_copyFrom 181 = .ok (.aload_n 1, 1) := by decide +kernel
theorem dX1_copyFrom_182 : decode cX1_copyFrom 182 = .ok (.getfield 39, 3) := by decide +kernel
theorem dX1_copyFrom_185 : decode cX1_copyFrom 185 = .ok (.iconst 0, 1) := by decide +kernel
theorem dX1_copyFrom_186 : decode cX1_copyFrom 186 = .ok (.aload_n 0, 1) := by decide +kernel
theorem dX1_copyFrom_187 : decode cX1_copyFrom 187 = .ok (.getfield 39, 3) := by decide +kernel
theorem dX1_copyFrom_190 : decode cX1_copyFrom 190 = .ok (.iconst 0, 1) := by decide +kernel
theorem dX1_copyFrom_191 : decode cX1_copyFrom 191 = .ok (.bipush 6, 2) := by decide +kernel
theorem dX1_copyFrom_193 : decode cX1_copyFrom 193 = .ok (.invokestatic 64, 3) := by decide +kernel
theorem dX1_copyFrom_196 : decode cX1_copyFrom 196 = .ok (.return_, 1) := by decide +kernel
theorem dX1_isAddress_0 : decode cX1_isAddress 0 = .ok (.iload_n 1, 1) := by decide +kernel
theorem dX1_isAddress_1 : decode cX1_isAddress 1 = .ok (.ifCond .lt 15, 3) := by decide +kernel
theorem dX1_isAddress_4 : decode cX1_isAddress 4 = .ok (.iload_n 1, 1) := by decide +kernel
theorem dX1_isAddress_5 : decode cX1_isAddress 5 = .ok (.aload_n 0, 1) := by decide +kernel
theorem dX1_isAddress_6 : decode cX1_isAddress 6 = .ok (.getfield 42, 3) := by decide +kernel
theorem dX1_isAddress_9 : decode cX1_isAddress 9 = .ok (.if_icmp .ge 7, 3) := by decide +kernel
theorem dX1_isAddress_12 : decode cX1_isAddress 12 = .ok (.iconst 1, 1) := by decide +kernel
theorem dX1_isAddress_13 : decode cX1_isAddress 13 = .ok (.goto 4, 3) := by decide +kernel
theorem dX1_isAddress_16 : decode cX1_isAddress 16 = .ok (.iconst 0, 1) := by decide +kernel
theorem dX1_isAddress_17 : decode cX1_isAddress 17 = .ok (.ireturn, 1) := by decide +kernel
theorem dX1_objectAt_0 : decode cX1_objectAt 0 = .ok (.aload_n 0, 1) := by decide +kernel
theorem dX1_objectAt_1 : decode cX1_objectAt 1 = .ok (.iload_n 1, 1) := by decide +kernel
theorem dX1_objectAt_2 : decode cX1_objectAt 2 = .ok (.invokevirtual 70, 3) := by decide +kernel
theorem dX1_objectAt_5 : decode cX1_objectAt 5 = .ok (.ifCond .eq 12, 3) := by decide +kernel
theorem dX1_objectAt_8 : decode cX1_objectAt 8 = .ok (.aload_n 0, 1) := by decide +kernel
theorem dX1_objectAt_9 : decode cX1_objectAt 9 = .ok (.getfield 9, 3) := by decide +kernel
theorem dX1_objectAt_12 : decode cX1_objectAt 12 = .ok (.iload_n 1, 1) := by decide +kernel
theorem dX1_objectAt_13 : decode cX1_objectAt 13 = .ok (.iaload, 1) := by decide +kernel
theorem dX1_objectAt_14 : decode cX1_objectAt 14 = .ok (.goto 4, 3) := by decide +kernel
theorem dX1_objectAt_17 : decode cX1_objectAt 17 = .ok (.iconst (-1), 1) := by decide +kernel
theorem dX1_objectAt_18 : decode cX1_objectAt 18 = .ok (.ireturn, 1) := by decide +kernel
theorem dX1_isObject_0 : decode cX1_isObject 0 = .ok (.aload_n 0, 1) := by decide +kernel
theorem dX1_isObject_1 : decode cX1_isObject 1 = .ok (.iload_n 1, 1) := by decide +kernel
theorem dX1_isObject_2 : decode cX1_isObject 2 = .ok (.invokevirtual 70, 3) := by decide +kernel
theorem dX1_isObject_5 : decode cX1_isObject 5 = .ok (.ifCond .eq 17, 3) := by decide +kernel
theorem dX1_isObject_8 : decode cX1_isObject 8 = .ok (.aload_n 0, 1) := by decide +kernel
theorem dX1_isObject_9 : decode cX1_isObject 9 = .ok (.getfield 9, 3) := by decide +kernel
theorem dX1_isObject_12 : decode cX1_isObject 12 = .ok (.iload_n 1, 1) := by decide +kernel
theorem dX1_isObject_13 : decode cX1_isObject 13 = .ok (.iaload, 1) := by decide +kernel
theorem dX1_isObject_14 : decode cX1_isObject 14 = .ok (.iload_n 1, 1) := by decide +kernel
theorem dX1_isObject_15 : decode cX1_isObject 15 = .ok (.if_icmp .ne 7, 3) := by decide +kernel
theorem dX1_isObject_18 : decode cX1_isObject 18 = .ok (.iconst 1, 1) := by decide +kernel
theorem dX1_isObject_19 : decode cX1_isObject 19 = .ok (.goto 4, 3) := by decide +kernel
theorem dX1_isObject_22 : decode cX1_isObject 22 = .ok (.iconst 0, 1) := by decide +kernel
theorem dX1_isObject_23 : decode cX1_isObject 23 = .ok (.ireturn, 1) := by decide +kernel
theorem dX1_isPinned_0 : decode cX1_isPinned 0 = .ok (.aload_n 0, 1) := by decide +kernel
theorem dX1_isPinned_1 : decode cX1_isPinned 1 = .ok (.iload_n 1, 1) := by decide +kernel
theorem dX1_isPinned_2 : decode cX1_isPinned 2 = .ok (.invokevirtual 74, 3) := by decide +kernel
theorem dX1_isPinned_5 : decode cX1_isPinned 5 = .ok (.ifCond .eq 16, 3) := by decide +kernel
theorem dX1_isPinned_8 : decode cX1_isPinned 8 = .ok (.aload_n 0, 1) := by decide +kernel
theorem dX1_isPinned_9 : decode cX1_isPinned 9 = .ok (.getfield 21, 3) := by decide +kernel
theorem dX1_isPinned_12 : decode cX1_isPinned 12 = .ok (.iload_n 1, 1) := by decide +kernel
theorem dX1_isPinned_13 : decode cX1_isPinned 13 = .ok (.iaload, 1) := by decide +kernel
theorem dX1_isPinned_14 : decode cX1_isPinned 14 = .ok (.ifCond .eq 7, 3) := by decide +kernel
theorem dX1_isPinned_17 : decode cX1_isPinned 17 = .ok (.iconst 1, 1) := by decide +kernel
theorem dX1_isPinned_18 : decode cX1_isPinned 18 = .ok (.goto 4, 3) := by decide +kernel
theorem dX1_isPinned_21 : decode cX1_isPinned 21 = .ok (.iconst 0, 1) := by decide +kernel
theorem dX1_isPinned_22 : decode cX1_isPinned 22 = .ok (.ireturn, 1) := by decide +kernel
theorem dX1_isReference_0 : decode cX1_isReference 0 = .ok (.iload_n 1, 1) := by decide +kernel
theorem dX1_isReference_1 : decode cX1_isReference 1 = .ok (.iconst (-1), 1) := by decide +kernel
theorem dX1_isReference_2 : decode cX1_isReference 2 = .ok (.if_icmp .eq 12, 3) := by decide +kernel
theorem dX1_isReference_5 : decode cX1_isReference 5 = .ok (.aload_n 0, 1) := by decide +kernel
theorem dX1_isReference_6 : decode cX1_isReference 6 = .ok (.iload_n 1, 1) := by decide +kernel
theorem dX1_isReference_7 : decode cX1_isReference 7 = .ok (.invokevirtual 77, 3) := by decide +kernel
theorem dX1_isReference_10 : decode cX1_isReference 10 = .ok (.iconst (-1), 1) := by decide +kernel
theorem dX1_isReference_11 : decode cX1_isReference 11 = .ok (.if_icmp .eq 7, 3) := by decide +kernel
theorem dX1_isReference_14 : decode cX1_isReference 14 = .ok (.iconst 1, 1) := by decide +kernel
theorem dX1_isReference_15 : decode cX1_isReference 15 = .ok (.goto 4, 3) := by decide +kernel
theorem dX1_isReference_18 : decode cX1_isReference 18 = .ok (.iconst 0, 1) := by decide +kernel
theorem dX1_isReference_19 : decode cX1_isReference 19 = .ok (.ireturn, 1) := by decide +kernel
theorem dX1_sizeOf_0 : decode cX1_sizeOf 0 = .ok (.iconst 1, 1) := by decide +kernel
theorem dX1_sizeOf_1 : decode cX1_sizeOf 1 = .ok (.aload_n 0, 1) := by decide +kernel
theorem dX1_sizeOf_2 : decode cX1_sizeOf 2 = .ok (.getfield 15, 3) := by decide +kernel
theorem dX1_sizeOf_5 : decode cX1_sizeOf 5 = .ok (.iload_n 1, 1) := by decide +kernel
theorem dX1_sizeOf_6 : decode cX1_sizeOf 6 = .ok (.iaload, 1) := by decide +kernel
theorem dX1_sizeOf_7 : decode cX1_sizeOf 7 = .ok (.iadd, 1) := by decide +kernel
theorem dX1_sizeOf_8 : decode cX1_sizeOf 8 = .ok (.aload_n 0, 1) := by decide +kernel
theorem dX1_sizeOf_9 : decode cX1_sizeOf 9 = .ok (.getfield 18, 3) := by decide +kernel
theorem dX1_sizeOf_12 : decode cX1_sizeOf 12 = .ok (.iload_n 1, 1) := by decide +kernel
theorem dX1_sizeOf_13 : decode cX1_sizeOf 13 = .ok (.iaload, 1) := by decide +kernel
theorem dX1_sizeOf_14 : decode cX1_sizeOf 14 = .ok (.iadd, 1) := by decide +kernel
theorem dX1_sizeOf_15 : decode cX1_sizeOf 15 = .ok (.ireturn, 1) := by decide +kernel
theorem dX1_objectFrom_0 : decode cX1_objectFrom 0 = .ok (.iload_n 1, 1) := by decide +kernel
theorem dX1_objectFrom_1 : decode cX1_objectFrom 1 = .ok (.istore_n 2, 1) := by decide +kernel
theorem dX1_objectFrom_2 : decode cX1_objectFrom 2 = .ok (.iload_n 2, 1) := by decide +kernel
theorem dX1_objectFrom_3 : decode cX1_objectFrom 3 = .ok (.aload_n 0, 1) := by decide +kernel
theorem dX1_objectFrom_4 : decode cX1_objectFrom 4 = .ok (.getfield 42, 3) := by decide +kernel
theorem dX1_objectFrom_7 : decode cX1_objectFrom 7 = .ok (.if_icmp .ge 19, 3) := by decide +kernel
theorem dX1_objectFrom_10 : decode cX1_objectFrom 10 = .ok (.aload_n 0, 1) := by decide +kernel
theorem dX1_objectFrom_11 : decode cX1_objectFrom 11 = .ok (.iload_n 2, 1) := by decide +kernel
theorem dX1_objectFrom_12 : decode cX1_objectFrom 12 = .ok (.invokevirtual 74, 3) := by decide +kernel
theorem dX1_objectFrom_15 : decode cX1_objectFrom 15 = .ok (.ifCond .eq 5, 3) := by decide +kernel
theorem dX1_objectFrom_18 : decode cX1_objectFrom 18 = .ok (.iload_n 2, 1) := by decide +kernel
theorem dX1_objectFrom_19 : decode cX1_objectFrom 19 = .ok (.ireturn, 1) := by decide +kernel
theorem dX1_objectFrom_20 : decode cX1_objectFrom 20 = .ok (.iinc 2 1, 3) := by decide +kernel
theorem dX1_objectFrom_23 : decode cX1_objectFrom 23 = .ok (.goto (-21), 3) := by decide +kernel
theorem dX1_objectFrom_26 : decode cX1_objectFrom 26 = .ok (.iconst (-1), 1) := by decide +kernel
theorem dX1_objectFrom_27 : decode cX1_objectFrom 27 = .ok (.ireturn, 1) := by decide +kernel
theorem dX1_roomFor_0 : decode cX1_roomFor 0 = .ok (.iconst 0, 1) := by decide +kernel
theorem dX1_roomFor_1 : decode cX1_roomFor 1 = .ok (.istore_n 2, 1) := by decide +kernel
theorem dX1_roomFor_2 : decode cX1_roomFor 2 = .ok (.iconst 0, 1) := by decide +kernel
theorem dX1_roomFor_3 : decode cX1_roomFor 3 = .ok (.istore_n 3, 1) := by decide +kernel
theorem dX1_roomFor_4 : decode cX1_roomFor 4 = .ok (.iload_n 3, 1) := by decide +kernel
theorem dX1_roomFor_5 : decode cX1_roomFor 5 = .ok (.aload_n 0, 1) := by decide +kernel
theorem dX1_roomFor_6 : decode cX1_roomFor 6 = .ok (.getfield 42, 3) := by decide +kernel
theorem dX1_roomFor_9 : decode cX1_roomFor 9 = .ok (.if_icmp .ge 38, 3) := by decide +kernel
theorem dX1_roomFor_12 : decode cX1_roomFor 12 = .ok (.aload_n 0, 1) := by decide +kernel
theorem dX1_roomFor_13 : decode cX1_roomFor 13 = .ok (.getfield 9, 3) := by decide +kernel
theorem dX1_roomFor_16 : decode cX1_roomFor 16 = .ok (.iload_n 3, 1) := by decide +kernel
theorem dX1_roomFor_17 : decode cX1_roomFor 17 = .ok (.iaload, 1) := by decide +kernel
theorem dX1_roomFor_18 : decode cX1_roomFor 18 = .ok (.iconst (-1), 1) := by decide +kernel
theorem dX1_roomFor_19 : decode cX1_roomFor 19 = .ok (.if_icmp .ne 9, 3) := by decide +kernel
theorem dX1_roomFor_22 : decode cX1_roomFor 22 = .ok (.iload_n 2, 1) := by decide +kernel
theorem dX1_roomFor_23 : decode cX1_roomFor 23 = .ok (.iconst 1, 1) := by decide +kernel
theorem dX1_roomFor_24 : decode cX1_roomFor 24 = .ok (.iadd, 1) := by decide +kernel
theorem dX1_roomFor_25 : decode cX1_roomFor 25 = .ok (.goto 4, 3) := by decide +kernel
theorem dX1_roomFor_28 : decode cX1_roomFor 28 = .ok (.iconst 0, 1) := by decide +kernel
theorem dX1_roomFor_29 : decode cX1_roomFor 29 = .ok (.istore_n 2, 1) := by decide +kernel
theorem dX1_roomFor_30 : decode cX1_roomFor 30 = .ok (.iload_n 2, 1) := by decide +kernel
theorem dX1_roomFor_31 : decode cX1_roomFor 31 = .ok (.iload_n 1, 1) := by decide +kernel
theorem dX1_roomFor_32 : decode cX1_roomFor 32 = .ok (.if_icmp .ne 9, 3) := by decide +kernel
theorem dX1_roomFor_35 : decode cX1_roomFor 35 = .ok (.iload_n 3, 1) := by decide +kernel
theorem dX1_roomFor_36 : decode cX1_roomFor 36 = .ok (.iconst 1, 1) := by decide +kernel
theorem dX1_roomFor_37 : decode cX1_roomFor 37 = .ok (.iadd, 1) := by decide +kernel
theorem dX1_roomFor_38 : decode cX1_roomFor 38 = .ok (.iload_n 1, 1) := by decide +kernel
theorem dX1_roomFor_39 : decode cX1_roomFor 39 = .ok (.isub, 1) := by decide +kernel
theorem dX1_roomFor_40 : decode cX1_roomFor 40 = .ok (.ireturn, 1) := by decide +kernel
theorem dX1_roomFor_41 : decode cX1_roomFor 41 = .ok (.iinc 3 1, 3) := by decide +kernel
theorem dX1_roomFor_44 : decode cX1_roomFor 44 = .ok (.goto (-40), 3) := by decide +kernel
theorem dX1_roomFor_47 : decode cX1_roomFor 47 = .ok (.iconst (-1), 1) := by decide +kernel
theorem dX1_roomFor_48 : decode cX1_roomFor 48 = .ok (.ireturn, 1) := by decide +kernel
theorem dX1_place_0 : decode cX1_place 0 = .ok (.aload_n 0, 1) := by decide +kernel
theorem dX1_place_1 : decode cX1_place 1 = .ok (.getfield 15, 3) := by decide +kernel
theorem dX1_place_4 : decode cX1_place 4 = .ok (.iload_n 1, 1) := by decide +kernel
theorem dX1_place_5 : decode cX1_place 5 = .ok (.iload_n 2, 1) := by decide +kernel
theorem dX1_place_6 : decode cX1_place 6 = .ok (.iastore, 1) := by decide +kernel
theorem dX1_place_7 : decode cX1_place 7 = .ok (.aload_n 0, 1) := by decide +kernel
theorem dX1_place_8 : decode cX1_place 8 = .ok (.getfield 18, 3) := by decide +kernel
theorem dX1_place_11 : decode cX1_place 11 = .ok (.iload_n 1, 1) := by decide +kernel
theorem dX1_place_12 : decode cX1_place 12 = .ok (.iload_n 3, 1) := by decide +kernel
theorem dX1_place_13 : decode cX1_place 13 = .ok (.iastore, 1) := by decide +kernel
theorem dX1_place_14 : decode cX1_place 14 = .ok (.aload_n 0, 1) := by decide +kernel
theorem dX1_place_15 : decode cX1_place 15 = .ok (.getfield 21, 3) := by decide +kernel
theorem dX1_place_18 : decode cX1_place 18 = .ok (.iload_n 1, 1) := by decide +kernel
theorem dX1_place_19 : decode cX1_place 19 = .ok (.iconst 0, 1) := by decide +kernel
theorem dX1_place_20 : decode cX1_place 20 = .ok (.iastore, 1) := by decide +kernel
theorem dX1_place_21 : decode cX1_place 21 = .ok (.aload_n 0, 1) := by decide +kernel
theorem dX1_place_22 : decode cX1_place 22 = .ok (.getfield 24, 3) := by decide +kernel
theorem dX1_place_25 : decode cX1_place 25 = .ok (.iload_n 1, 1) := by decide +kernel
theorem dX1_place_26 : decode cX1_place 26 = .ok (.iconst 0, 1) := by decide +kernel
theorem dX1_place_27 : decode cX1_place 27 = .ok (.iastore, 1) := by decide +kernel
theorem dX1_place_28 : decode cX1_place 28 = .ok (.iload_n 1, 1) := by decide +kernel
theorem dX1_place_29 : decode cX1_place 29 = .ok (.iconst 1, 1) := by decide +kernel
theorem dX1_place_30 : decode cX1_place 30 = .ok (.iadd, 1) := by decide +kernel
theorem dX1_place_31 : decode cX1_place 31 = .ok (.iload_n 2, 1) := by decide +kernel
theorem dX1_place_32 : decode cX1_place 32 = .ok (.iadd, 1) := by decide +kernel
theorem dX1_place_33 : decode cX1_place 33 = .ok (.istore 4, 2) := by decide +kernel
theorem dX1_place_35 : decode cX1_place 35 = .ok (.aload_n 0, 1) := by decide +kernel
theorem dX1_place_36 : decode cX1_place 36 = .ok (.getfield 27, 3) := by decide +kernel
theorem dX1_place_39 : decode cX1_place 39 = .ok (.iload_n 1, 1) := by decide +kernel
theorem dX1_place_40 : decode cX1_place 40 = .ok (.iconst 1, 1) := by decide +kernel
theorem dX1_place_41 : decode cX1_place 41 = .ok (.iadd, 1) := by decide +kernel
theorem dX1_place_42 : decode cX1_place 42 = .ok (.iload 4, 2) := by decide +kernel
theorem dX1_place_44 : decode cX1_place 44 = .ok (.iconst (-1), 1) := by decide +kernel
theorem dX1_place_45 : decode cX1_place 45 = .ok (.invokestatic 81, 3) := by decide +kernel
theorem dX1_place_48 : decode cX1_place 48 = .ok (.aload_n 0, 1) := by decide +kernel
theorem dX1_place_49 : decode cX1_place 49 = .ok (.getfield 27, 3) := by decide +kernel
theorem dX1_place_52 : decode cX1_place 52 = .ok (.iload 4, 2) := by decide +kernel
theorem dX1_place_54 : decode cX1_place 54 = .ok (.iload 4, 2) := by decide +kernel
theorem dX1_place_56 : decode cX1_place 56 = .ok (.iload_n 3, 1) := by decide +kernel
theorem dX1_place_57 : decode cX1_place 57 = .ok (.iadd, 1) := by decide +kernel
theorem dX1_place_58 : decode cX1_place 58 = .ok (.iconst 0, 1) := by decide +kernel
theorem dX1_place_59 : decode cX1_place 59 = .ok (.invokestatic 81, 3) := by decide +kernel
theorem dX1_place_62 : decode cX1_place 62 = .ok (.aload_n 0, 1) := by decide +kernel
theorem dX1_place_63 : decode cX1_place 63 = .ok (.iload_n 1, 1) := by decide +kernel
theorem dX1_place_64 : decode cX1_place 64 = .ok (.invokevirtual 84, 3) := by decide +kernel
theorem dX1_place_67 : decode cX1_place 67 = .ok (.aload_n 0, 1) := by decide +kernel
theorem dX1_place_68 : decode cX1_place 68 = .ok (.dup, 1) := by decide +kernel
theorem dX1_place_69 : decode cX1_place 69 = .ok (.getfield 49, 3) := by decide +kernel
theorem dX1_place_72 : decode cX1_place 72 = .ok (.iconst 1, 1) := by decide +kernel
theorem dX1_place_73 : decode cX1_place 73 = .ok (.iadd, 1) := by decide +kernel
theorem dX1_place_74 : decode cX1_place 74 = .ok (.putfield 49, 3) := by decide +kernel
theorem dX1_place_77 : decode cX1_place 77 = .ok (.return_, 1) := by decide +kernel
theorem dX1_shift_0 : decode cX1_shift 0 = .ok (.aload_n 0, 1) := by decide +kernel
theorem dX1_shift_1 : decode cX1_shift 1 = .ok (.getfield 15, 3) := by decide +kernel
theorem dX1_shift_4 : decode cX1_shift 4 = .ok (.iload_n 2, 1) := by decide +kernel
theorem dX1_shift_5 : decode cX1_shift 5 = .ok (.aload_n 0, 1) := by decide +kernel
theorem dX1_shift_6 : decode cX1_shift 6 = .ok (.getfield 15, 3) := by decide +kernel
theorem dX1_shift_9 : decode cX1_shift 9 = .ok (.iload_n 1, 1) := by decide +kernel
theorem dX1_shift_10 : decode cX1_shift 10 = .ok (.iaload, 1) := by decide +kernel
theorem dX1_shift_11 : decode cX1_shift 11 = .ok (.iastore, 1) := by decide +kernel
theorem dX1_shift_12 : decode cX1_shift 12 = .ok (.aload_n 0, 1) := by decide +kernel
theorem dX1_shift_13 : decode cX1_shift 13 = .ok (.getfield 18, 3) := by decide +kernel
theorem dX1_shift_16 : decode cX1_shift 16 = .ok (.iload_n 2, 1) := by decide +kernel
theorem dX1_shift_17 : decode cX1_shift 17 = .ok (.aload_n 0, 1) := by decide +kernel
theorem dX1_shift_18 : decode cX1_shift 18 = .ok (.getfield 18, 3) := by decide +kernel
theorem dX1_shift_21 : decode cX1_shift 21 = .ok (.iload_n 1, 1) := by decide +kernel
theorem dX1_shift_22 : decode cX1_shift 22 = .ok (.iaload, 1) := by decide +kernel
theorem dX1_shift_23 : decode cX1_shift 23 = .ok (.iastore, 1) := by decide +kernel
theorem dX1_shift_24 : decode cX1_shift 24 = .ok (.aload_n 0, 1) := by decide +kernel
theorem dX1_shift_25 : decode cX1_shift 25 = .ok (.getfield 21, 3) := by decide +kernel
theorem dX1_shift_28 : decode cX1_shift 28 = .ok (.iload_n 2, 1) := by decide +kernel
theorem dX1_shift_29 : decode cX1_shift 29 = .ok (.aload_n 0, 1) := by decide +kernel
theorem dX1_shift_30 : decode cX1_shift 30 = .ok (.getfield 21, 3) := by decide +kernel
theorem dX1_shift_33 : decode cX1_shift 33 = .ok (.iload_n 1, 1) := by decide +kernel
theorem dX1_shift_34 : decode cX1_shift 34 = .ok (.iaload, 1) := by decide +kernel
theorem dX1_shift_35 : decode cX1_shift 35 = .ok (.iastore, 1) := by decide +kernel
theorem dX1_shift_36 : decode cX1_shift 36 = .ok (.aload_n 0, 1) := by decide +kernel
theorem dX1_shift_37 : decode cX1_shift 37 = .ok (.getfield 24, 3) := by decide +kernel
theorem dX1_shift_40 : decode cX1_shift 40 = .ok (.iload_n 2, 1) := by decide +kernel
theorem dX1_shift_41 : decode cX1_shift 41 = .ok (.aload_n 0, 1) := by decide +kernel
theorem dX1_shift_42 : decode cX1_shift 42 = .ok (.getfield 24, 3) := by decide +kernel
theorem dX1_shift_45 : decode cX1_shift 45 = .ok (.iload_n 1, 1) := by decide +kernel
theorem dX1_shift_46 : decode cX1_shift 46 = .ok (.iaload, 1) := by decide +kernel
theorem dX1_shift_47 : decode cX1_shift 47 = .ok (.iconst 1, 1) := by decide +kernel
theorem dX1_shift_48 : decode cX1_shift 48 = .ok (.iadd, 1) := by decide +kernel
theorem dX1_shift_49 : decode cX1_shift 49 = .ok (.iastore, 1) := by decide +kernel
theorem dX1_shift_50 : decode cX1_shift 50 = .ok (.aload_n 0, 1) := by decide +kernel
theorem dX1_shift_51 : decode cX1_shift 51 = .ok (.getfield 27, 3) := by decide +kernel
theorem dX1_shift_54 : decode cX1_shift 54 = .ok (.iload_n 1, 1) := by decide +kernel
theorem dX1_shift_55 : decode cX1_shift 55 = .ok (.aload_n 0, 1) := by decide +kernel
theorem dX1_shift_56 : decode cX1_shift 56 = .ok (.getfield 27, 3) := by decide +kernel
theorem dX1_shift_59 : decode cX1_shift 59 = .ok (.iload_n 2, 1) := by decide +kernel
theorem dX1_shift_60 : decode cX1_shift 60 = .ok (.aload_n 0, 1) := by decide +kernel
theorem dX1_shift_61 : decode cX1_shift 61 = .ok (.iload_n 2, 1) := by decide +kernel
theorem dX1_shift_62 : decode cX1_shift 62 = .ok (.invokevirtual 88, 3) := by decide +kernel
theorem dX1_shift_65 : decode cX1_shift 65 = .ok (.invokestatic 64, 3) := by decide +kernel
theorem dX1_shift_68 : decode cX1_shift 68 = .ok (.aload_n 0, 1) := by decide +kernel
theorem dX1_shift_69 : decode cX1_shift 69 = .ok (.iload_n 2, 1) := by decide +kernel
theorem dX1_shift_70 : decode cX1_shift 70 = .ok (.invokevirtual 84, 3) := by decide +kernel
theorem dX1_shift_73 : decode cX1_shift 73 = .ok (.return_, 1) := by decide +kernel
theorem dX1_own_0 : decode cX1_own 0 = .ok (.aload_n 0, 1) := by decide +kernel
theorem dX1_own_1 : decode cX1_own 1 = .ok (.getfield 9, 3) := by decide +kernel
theorem dX1_own_4 : decode cX1_own 4 = .ok (.iload_n 1, 1) := by decide +kernel
theorem dX1_own_5 : decode cX1_own 5 = .ok (.iload_n 1, 1) := by decide +kernel
theorem dX1_own_6 : decode cX1_own 6 = .ok (.aload_n 0, 1) := by decide +kernel
theorem dX1_own_7 : decode cX1_own 7 = .ok (.iload_n 1, 1) := by decide +kernel
theorem dX1_own_8 : decode cX1_own 8 = .ok (.invokevirtual 88, 3) := by decide +kernel
theorem dX1_own_11 : decode cX1_own 11 = .ok (.iadd, 1) := by decide +kernel
theorem dX1_own_12 : decode cX1_own 12 = .ok (.iload_n 1, 1) := by decide +kernel
theorem dX1_own_13 : decode cX1_own 13 = .ok (.invokestatic 81, 3) := by decide +kernel
theorem dX1_own_16 : decode cX1_own 16 = .ok (.return_, 1) := by decide +kernel
theorem dX1_usedWords_0 : decode cX1_usedWords 0 = .ok (.iconst 0, 1) := by decide +kernel
theorem dX1_usedWords_1 : decode cX1_usedWords 1 = .ok (.istore_n 1, 1) := by decide +kernel
theorem dX1_usedWords_2 : decode cX1_usedWords 2 = .ok (.iconst 0, 1) := by decide +kernel
theorem dX1_usedWords_3 : decode cX1_usedWords 3 = .ok (.istore_n 2, 1) := by decide +kernel
theorem dX1_usedWords_4 : decode cX1_usedWords 4 = .ok (.iload_n 2, 1) := by decide +kernel
theorem dX1_usedWords_5 : decode cX1_usedWords 5 = .ok (.aload_n 0, 1) := by decide +kernel
theorem dX1_usedWords_6 : decode cX1_usedWords 6 = .ok (.getfield 42, 3) := by decide +kernel
theorem dX1_usedWords_9 : decode cX1_usedWords 9 = .ok (.if_icmp .ge 22, 3) := by decide +kernel
theorem dX1_usedWords_12 : decode cX1_usedWords 12 = .ok (.aload_n 0, 1) := by decide +kernel
theorem dX1_usedWords_13 : decode cX1_usedWords 13 = .ok (.getfield 9, 3) := by decide +kernel
theorem dX1_usedWords_16 : decode cX1_usedWords 16 = .ok (.iload_n 2, 1) := by decide +kernel
theorem dX1_usedWords_17 : decode cX1_usedWords 17 = .ok (.iaload, 1) := by decide +kernel
theorem dX1_usedWords_18 : decode cX1_usedWords 18 = .ok (.iconst (-1), 1) := by decide +kernel
theorem dX1_usedWords_19 : decode cX1_usedWords 19 = .ok (.if_icmp .eq 6, 3) := by decide +kernel
theorem dX1_usedWords_22 : decode cX1_usedWords 22 = .ok (.iinc 1 1, 3) := by decide +kernel
theorem dX1_usedWords_25 : decode cX1_usedWords 25 = .ok (.iinc 2 1, 3) := by decide +kernel
theorem dX1_usedWords_28 : decode cX1_usedWords 28 = .ok (.goto (-24), 3) := by decide +kernel
theorem dX1_usedWords_31 : decode cX1_usedWords 31 = .ok (.iload_n 1, 1) := by decide +kernel
theorem dX1_usedWords_32 : decode cX1_usedWords 32 = .ok (.ireturn, 1) := by decide +kernel
theorem dX1_objectCount_0 : decode cX1_objectCount 0 = .ok (.iconst 0, 1) := by decide +kernel
theorem dX1_objectCount_1 : decode cX1_objectCount 1 = .ok (.istore_n 1, 1) := by decide +kernel
theorem dX1_objectCount_2 : decode cX1_objectCount 2 = .ok (.iconst 0, 1) := by decide +kernel
theorem dX1_objectCount_3 : decode cX1_objectCount 3 = .ok (.istore_n 2, 1) := by decide +kernel
theorem dX1_objectCount_4 : decode cX1_objectCount 4 = .ok (.iload_n 2, 1) := by decide +kernel
theorem dX1_objectCount_5 : decode cX1_objectCount 5 = .ok (.aload_n 0, 1) := by decide +kernel
theorem dX1_objectCount_6 : decode cX1_objectCount 6 = .ok (.getfield 42, 3) := by decide +kernel
theorem dX1_objectCount_9 : decode cX1_objectCount 9 = .ok (.if_icmp .ge 20, 3) := by decide +kernel
theorem dX1_objectCount_12 : decode cX1_objectCount 12 = .ok (.aload_n 0, 1) := by decide +kernel
theorem dX1_objectCount_13 : decode cX1_objectCount 13 = .ok (.iload_n 2, 1) := by decide +kernel
theorem dX1_objectCount_14 : decode cX1_objectCount 14 = .ok (.invokevirtual 74, 3) := by decide +kernel
theorem dX1_objectCount_17 : decode cX1_objectCount 17 = .ok (.ifCond .eq 6, 3) := by decide +kernel
theorem dX1_objectCount_20 : decode cX1_objectCount 20 = .ok (.iinc 1 1, 3) := by decide +kernel
theorem dX1_objectCount_23 : decode cX1_objectCount 23 = .ok (.iinc 2 1, 3) := by decide +kernel
theorem dX1_objectCount_26 : decode cX1_objectCount 26 = .ok (.goto (-22), 3) := by decide +kernel
theorem dX1_objectCount_29 : decode cX1_objectCount 29 = .ok (.iload_n 1, 1) := by decide +kernel
theorem dX1_objectCount_30 : decode cX1_objectCount 30 = .ok (.ireturn, 1) := by decide +kernel
theorem dX1_pinnedCount_0 : decode cX1_pinnedCount 0 = .ok (.iconst 0, 1) := by decide +kernel
theorem dX1_pinnedCount_1 : decode cX1_pinnedCount 1 = .ok (.istore_n 1, 1) := by decide +kernel
theorem dX1_pinnedCount_2 : decode cX1_pinnedCount 2 = .ok (.iconst 0, 1) := by decide +kernel
theorem dX1_pinnedCount_3 : decode cX1_pinnedCount 3 = .ok (.istore_n 2, 1) := by decide +kernel
theorem dX1_pinnedCount_4 : decode cX1_pinnedCount 4 = .ok (.iload_n 2, 1) := by decide +kernel
theorem dX1_pinnedCount_5 : decode cX1_pinnedCount 5 = .ok (.aload_n 0, 1) := by decide +kernel
theorem dX1_pinnedCount_6 : decode cX1_pinnedCount 6 = .ok (.getfield 42, 3) := by decide +kernel
theorem dX1_pinnedCount_9 : decode cX1_pinnedCount 9 = .ok (.if_icmp .ge 20, 3) := by decide +kernel
theorem dX1_pinnedCount_12 : decode cX1_pinnedCount 12 = .ok (.aload_n 0, 1) := by decide +kernel
theorem dX1_pinnedCount_13 : decode cX1_pinnedCount 13 = .ok (.iload_n 2, 1) := by decide +kernel
theorem dX1_pinnedCount_14 : decode cX1_pinnedCount 14 = .ok (.invokevirtual 91, 3) := by decide +kernel
theorem dX1_pinnedCount_17 : decode cX1_pinnedCount 17 = .ok (.ifCond .eq 6, 3) := by decide +kernel
theorem dX1_pinnedCount_20 : decode cX1_pinnedCount 20 = .ok (.iinc 1 1, 3) := by decide +kernel
theorem dX1_pinnedCount_23 : decode cX1_pinnedCount 23 = .ok (.iinc 2 1, 3) := by decide +kernel
theorem dX1_pinnedCount_26 : decode cX1_pinnedCount 26 = .ok (.goto (-22), 3) := by decide +kernel
theorem dX1_pinnedCount_29 : decode cX1_pinnedCount 29 = .ok (.iload_n 1, 1) := by decide +kernel
theorem dX1_pinnedCount_30 : decode cX1_pinnedCount 30 = .ok (.ireturn, 1) := by decide +kernel
set_option maxRecDepth 20000 in
theorem ggX2_measure_J7_fill_53178 : GoodIn wsX2_measure wsJ7_fill_53178 := goodIn_r _ [7] (by decide +kernel) (by decide +kernel)
set_option maxRecDepth 20000 in
theorem gX2_measure_J7_fill_53178 : GoodIn wsX2_measure (va_wsS RX2 15 yJ7_fill_53178 wsJ7_fill_53178) := goodIn_app (goodIn_of _ (by decide +kernel)) ggX2_measure_J7_fill_53178
set_option maxRecDepth 20000 in
theorem ggX2_measure_X2_include : GoodIn wsX2_measure wsX2_include := goodIn_r _ [12, 1, 13, 14, 15, 16, 17] (by decide +kernel) (by decide +kernel)
set_option maxRecDepth 20000 in
theorem gX2_measure_X2_include : GoodIn wsX2_measure (wsV RX2 30 RX2 yX2_include wsX2_include) := goodIn_app (goodIn_of _ (by decide +kernel)) ggX2_measure_X2_include
theorem dX2_init_0 : decode cX2_init 0 = .ok (.aload_n 0, 1) := by decide +kernel
theorem dX2_init_1 : decode cX2_init 1 = .ok (.invokespecial 3, 3) := by decide +kernel
theorem dX2_init_4 : decode cX2_init 4 = .ok (.aload_n 0, 1) := by decide +kernel
theorem dX2_init_5 : decode cX2_init 5 = .ok (.iconst 5, 1) := by decide +kernel
theorem dX2_init_6 : decode cX2_init 6 = .ok (.newarray .int, 2) := by decide +kernel
theorem dX2_init_8 : decode cX2_init 8 = .ok (.putfield 9, 3) := by decide +kernel
theorem dX2_init_11 : decode cX2_init 11 = .ok (.return_, 1) := by decide +kernel
theorem dX2_measure_0 : decode cX2_measure 0 = .ok (.aload_n 0, 1) := by decide +kernel
theorem dX2_measure_1 : decode cX2_measure 1 = .ok (.getfield 9, 3) := by decide +kernel
theorem dX2_measure_4 : decode cX2_measure 4 = .ok (.iconst 0, 1) := by decide +kernel
theorem dX2_measure_5 : decode cX2_measure 5 = .ok (.invokestatic 15, 3) := by decide +kernel
theorem dX2_measure_8 : decode cX2_measure 8 = .ok (.aload_n 0, 1) := by decide +kernel
theorem dX2_measure_9 : decode cX2_measure 9 = .ok (.getfield 9, 3) := by decide +kernel
theorem dX2_measure_12 : decode cX2_measure 12 = .ok (.iconst 3, 1) := by decide +kernel
theorem dX2_measure_13 : decode cX2_measure 13 = .ok (.iconst (-1), 1) := by decide +kernel
theorem dX2_measure_14 : decode cX2_measure 14 = .ok (.iastore, 1) := by decide +kernel
theorem dX2_measure_15 : decode cX2_measure 15 = .ok (.iconst 0, 1) := by decide +kernel
theorem dX2_measure_16 : decode cX2_measure 16 = .ok (.istore_n 2, 1) := by decide +kernel
theorem dX2_measure_17 : decode cX2_measure 17 = .ok (.iconst 0, 1) := by decide +kernel
theorem dX2_measure_18 : decode cX2_measure 18 = .ok (.istore_n 3, 1) := by decide +kernel
theorem dX2_measure_19 : decode cX2_measure 19 = .ok (.iload_n 3, 1) := by decide +kernel
theorem dX2_measure_20 : decode cX2_measure 20 = .ok (.aload_n 1, 1) := by decide +kernel
theorem dX2_measure_21 : decode cX2_measure 21 = .ok (.getfield 21, 3) := by decide +kernel
theorem dX2_measure_24 : decode cX2_measure 24 = .ok (.if_icmp .ge 35, 3) := by decide +kernel
theorem dX2_measure_27 : decode cX2_measure 27 = .ok (.aload_n 1, 1) := by decide +kernel
theorem dX2_measure_28 : decode cX2_measure 28 = .ok (.getfield 27, 3) := by decide +kernel
theorem dX2_measure_31 : decode cX2_measure 31 = .ok (.iload_n 3, 1) := by decide +kernel
theorem dX2_measure_32 : decode cX2_measure 32 = .ok (.iaload, 1) := by decide +kernel
theorem dX2_measure_33 : decode cX2_measure 33 = .ok (.iconst (-1), 1) := by decide +kernel
theorem dX2_measure_34 : decode cX2_measure 34 = .ok (.if_icmp .ne 9, 3) := by decide +kernel
theorem dX2_measure_37 : decode cX2_measure 37 = .ok (.iinc 2 1, 3) := by decide +kernel
theorem dX2_measure_40 : decode cX2_measure 40 = .ok (.goto 13, 3) := by decide +kernel
theorem dX2_measure_43 : decode cX2_measure 43 = .ok (.aload_n 0, 1) := by decide +kernel
theorem dX2_measure_44 : decode cX2_measure 44 = .ok (.iload_n 3, 1) := by decide +kernel
theorem dX2_measure_45 : decode cX2_measure 45 = .ok (.iload_n 2, 1) := by decide +kernel
theorem dX2_measure_46 : decode cX2_measure 46 = .ok (.isub, 1) := by decide +kernel
theorem dX2_measure_47 : decode cX2_measure 47 = .ok (.iload_n 2, 1) := by decide +kernel
theorem dX2_measure_48 : decode cX2_measure 48 = .ok (.invokevirtual 30, 3) := by decide +kernel
theorem dX2_measure_51 : decode cX2_measure 51 = .ok (.iconst 0, 1) := by decide +kernel
theorem dX2_measure_52 : decode cX2_measure 52 = .ok (.istore_n 2, 1) := by decide +kernel
theorem dX2_measure_53 : decode cX2_measure 53 = .ok (.iinc 3 1, 3) := by decide +kernel
theorem dX2_measure_56 : decode cX2_measure 56 = .ok (.goto (-37), 3) := by decide +kernel
theorem dX2_measure_59 : decode cX2_measure 59 = .ok (.aload_n 0, 1) := by decide +kernel
theorem dX2_measure_60 : decode cX2_measure 60 = .ok (.aload_n 1, 1) := by decide +kernel
theorem dX2_measure_61 : decode cX2_measure 61 = .ok (.getfield 21, 3) := by decide +kernel
theorem dX2_measure_64 : decode cX2_measure 64 = .ok (.iload_n 2, 1) := by decide +kernel
theorem dX2_measure_65 : decode cX2_measure 65 = .ok (.isub, 1) := by decide +kernel
theorem dX2_measure_66 : decode cX2_measure 66 = .ok (.iload_n 2, 1) := by decide +kernel
theorem dX2_measure_67 : decode cX2_measure 67 = .ok (.invokevirtual 30, 3) := by decide +kernel
theorem dX2_measure_70 : decode cX2_measure 70 = .ok (.return_, 1) := by decide +kernel
theorem dX2_include_0 : decode cX2_include 0 = .ok (.iload_n 2, 1) := by decide +kernel
theorem dX2_include_1 : decode cX2_include 1 = .ok (.ifCond .ne 4, 3) := by decide +kernel
theorem dX2_include_4 : decode cX2_include 4 = .ok (.return_, 1) := by decide +kernel
theorem dX2_include_5 : decode cX2_include 5 = .ok (.aload_n 0, 1) := by decide +kernel
theorem dX2_include_6 : decode cX2_include 6 = .ok (.getfield 9, 3) := by decide +kernel
theorem dX2_include_9 : decode cX2_include 9 = .ok (.iconst 0, 1) := by decide +kernel
theorem dX2_include_10 : decode cX2_include 10 = .ok (.dup2, 1) := by decide +kernel
theorem dX2_include_11 : decode cX2_include 11 = .ok (.iaload, 1) := by decide +kernel
theorem dX2_include_12 : decode cX2_include 12 = .ok (.iload_n 2, 1) := by decide +kernel
theorem dX2_include_13 : decode cX2_include 13 = .ok (.iadd, 1) := by decide +kernel
theorem dX2_include_14 : decode cX2_include 14 = .ok (.iastore, 1) := by decide +kernel
theorem dX2_include_15 : decode cX2_include 15 = .ok (.aload_n 0, 1) := by decide +kernel
theorem dX2_include_16 : decode cX2_include 16 = .ok (.getfield 9, 3) := by decide +kernel
theorem dX2_include_19 : decode cX2_include 19 = .ok (.iconst 1, 1) := by decide +kernel
theorem dX2_include_20 : decode cX2_include 20 = .ok (.dup2, 1) := by decide +kernel
theorem dX2_include_21 : decode cX2_include 21 = .ok (.iaload, 1) := by decide +kernel
theorem dX2_include_22 : decode cX2_include 22 = .ok (.iconst 1, 1) := by decide +kernel
theorem dX2_include_23 : decode cX2_include 23 = .ok (.iadd, 1) := by decide +kernel
theorem dX2_include_24 : decode cX2_include 24 = .ok (.iastore, 1) := by decide +kernel
theorem dX2_include_25 : decode cX2_include 25 = .ok (.aload_n 0, 1) := by decide +kernel
theorem dX2_include_26 : decode cX2_include 26 = .ok (.getfield 9, 3) := by decide +kernel
theorem dX2_include_29 : decode cX2_include 29 = .ok (.iconst 2, 1) := by decide +kernel
theorem dX2_include_30 : decode cX2_include 30 = .ok (.aload_n 0, 1) := by decide +kernel
theorem dX2_include_31 : decode cX2_include 31 = .ok (.getfield 9, 3) := by decide +kernel
theorem dX2_include_34 : decode cX2_include 34 = .ok (.iconst 2, 1) := by decide +kernel
theorem dX2_include_35 : decode cX2_include 35 = .ok (.iaload, 1) := by decide +kernel
theorem dX2_include_36 : decode cX2_include 36 = .ok (.iload_n 2, 1) := by decide +kernel
theorem dX2_include_37 : decode cX2_include 37 = .ok (.invokestatic 34, 3) := by decide +kernel
theorem dX2_include_40 : decode cX2_include 40 = .ok (.iastore, 1) := by decide +kernel
theorem dX2_include_41 : decode cX2_include 41 = .ok (.aload_n 0, 1) := by decide +kernel
theorem dX2_include_42 : decode cX2_include 42 = .ok (.getfield 9, 3) := by decide +kernel
theorem dX2_include_45 : decode cX2_include 45 = .ok (.iconst 3, 1) := by decide +kernel
theorem dX2_include_46 : decode cX2_include 46 = .ok (.iaload, 1) := by decide +kernel
theorem dX2_include_47 : decode cX2_include 47 = .ok (.iconst (-1), 1) := by decide +kernel
theorem dX2_include_48 : decode cX2_include 48 = .ok (.if_icmp .ne 10, 3) := by decide +kernel
theorem dX2_include_51 : decode cX2_include 51 = .ok (.aload_n 0, 1) := by decide +kernel
theorem dX2_include_52 : decode cX2_include 52 = .ok (.getfield 9, 3) := by decide +kernel
theorem dX2_include_55 : decode cX2_include 55 = .ok (.iconst 3, 1) := by decide +kernel
theorem dX2_include_56 : decode cX2_include 56 = .ok (.iload_n 1, 1) := by decide +kernel
theorem dX2_include_57 : decode cX2_include 57 = .ok (.iastore, 1) := by decide +kernel
theorem dX2_include_58 : decode cX2_include 58 = .ok (.aload_n 0, 1) := by decide +kernel
theorem dX2_include_59 : decode cX2_include 59 = .ok (.getfield 9, 3) := by decide +kernel
theorem dX2_include_62 : decode cX2_include 62 = .ok (.iconst 4, 1) := by decide +kernel
theorem dX2_include_63 : decode cX2_include 63 = .ok (.dup2, 1) := by decide +kernel
theorem dX2_include_64 : decode cX2_include 64 = .ok (.iaload, 1) := by decide +kernel
theorem dX2_include_65 : decode cX2_include 65 = .ok (.iload_n 2, 1) := by decide +kernel
theorem dX2_include_66 : decode cX2_include 66 = .ok (.iconst 4, 1) := by decide +kernel
theorem dX2_include_67 : decode cX2_include 67 = .ok (.idiv, 1) := by decide +kernel
theorem dX2_include_68 : decode cX2_include 68 = .ok (.iadd, 1) := by decide +kernel
theorem dX2_include_69 : decode cX2_include 69 = .ok (.iastore, 1) := by decide +kernel
theorem dX2_include_70 : decode cX2_include 70 = .ok (.return_, 1) := by decide +kernel
set_option maxRecDepth 20000 in
theorem ggX3_trace_J7_fill_53178 : GoodIn wsX3_trace wsJ7_fill_53178 := goodIn_r _ [11] (by decide +kernel) (by decide +kernel)
set_option maxRecDepth 20000 in
theorem gX3_trace_J7_fill_53178 : GoodIn wsX3_trace (va_wsS RX3 18 yJ7_fill_53178 wsJ7_fill_53178) := goodIn_app (goodIn_of _ (by decide +kernel)) ggX3_trace_J7_fill_53178
set_option maxRecDepth 20000 in
theorem ggX3_trace_X1_objectAt : GoodIn wsX3_trace wsX1_objectAt := goodIn_r _ [16, 17, 18, 19, 20, 15, 21, 22, 40, 41, 42, 43, 44, 45, 46, 47, 48, 49, 50, 51, 52, 53, 54] (by decide +kernel) (by decide +kernel)
set_option maxRecDepth 20000 in
theorem gX3_trace_X1_objectAt : GoodIn wsX3_trace (wsV RX3 33 RX1 yX1_objectAt wsX1_objectAt) := goodIn_app (goodIn_of _ (by decide +kernel)) ggX3_trace_X1_objectAt
set_option maxRecDepth 20000 in
theorem ggX3_trace_X3_arrive : GoodIn wsX3_trace wsX3_arrive := goodIn_r _ [27, 1, 2, 5, 37, 38, 39] (by decide +kernel) (by decide +kernel)
set_option maxRecDepth 20000 in
theorem gX3_trace_X3_arrive : GoodIn wsX3_trace (wsV RX3 37 RX3 yX3_arrive wsX3_arrive) := goodIn_app (goodIn_of _ (by decide +kernel)) ggX3_trace_X3_arrive
set_option maxRecDepth 20000 in
theorem ggX3_trace_X1_isPinned : GoodIn wsX3_trace wsX1_isPinned := goodIn_r _ [31, 32, 33, 34, 35, 15, 36, 17, 18, 19, 20, 21, 22, 40, 41, 42, 43, 44, 45, 46, 47, 48, 49, 50, 51, 52, 53, 54] (by decide +kernel) (by decide +kernel)
set_option maxRecDepth 20000 in
theorem gX3_trace_X1_isPinned : GoodIn wsX3_trace (wsV RX3 44 RX1 yX1_isPinned wsX1_isPinned) := goodIn_app (goodIn_of _ (by decide +kernel)) ggX3_trace_X1_isPinned
set_option maxRecDepth 20000 in
theorem ggX3_liveWords_X1_sizeOf : GoodIn wsX3_liveWords wsX1_sizeOf := goodIn_r _ [7, 8, 9, 13, 14, 15, 16, 17, 18, 19, 20, 21, 22, 23, 24, 25, 26, 27] (by decide +kernel) (by decide +kernel)
set_option maxRecDepth 20000 in
theorem gX3_liveWords_X1_sizeOf : GoodIn wsX3_liveWords (wsV RX3 54 RX1 yX1_sizeOf wsX1_sizeOf) := goodIn_app (goodIn_of _ (by decide +kernel)) ggX3_liveWords_X1_sizeOf
theorem dX3_init_0 : decode cX3_init 0 = .ok (.aload_n 0, 1) := by decide +kernel
theorem dX3_init_1 : decode cX3_init 1 = .ok (.invokespecial 3, 3) := by decide +kernel
theorem dX3_init_4 : decode cX3_init 4 = .ok (.aload_n 0, 1) := by decide +kernel
theorem dX3_init_5 : decode cX3_init 5 = .ok (.sipush 200, 3) := by decide +kernel
theorem dX3_init_8 : decode cX3_init 8 = .ok (.newarray .int, 2) := by decide +kernel
theorem dX3_init_10 : decode cX3_init 10 = .ok (.putfield 9, 3) := by decide +kernel
theorem dX3_init_13 : decode cX3_init 13 = .ok (.aload_n 0, 1) := by decide +kernel
theorem dX3_init_14 : decode cX3_init 14 = .ok (.sipush 200, 3) := by decide +kernel
theorem dX3_init_17 : decode cX3_init 17 = .ok (.newarray .int, 2) := by decide +kernel
theorem dX3_init_19 : decode cX3_init 19 = .ok (.putfield 15, 3) := by decide +kernel
theorem dX3_init_22 : decode cX3_init 22 = .ok (.return_, 1) := by decide +kernel
theorem dX3_trace_0 : decode cX3_trace 0 = .ok (.aload_n 0, 1) := by decide +kernel
theorem dX3_trace_1 : decode cX3_trace 1 = .ok (.getfield 9, 3) := by decide +kernel
theorem dX3_trace_4 : decode cX3_trace 4 = .ok (.iconst (-1), 1) := by decide +kernel
theorem dX3_trace_5 : decode cX3_trace 5 = .ok (.invokestatic 18, 3) := by decide +kernel
theorem dX3_trace_8 : decode cX3_trace 8 = .ok (.aload_n 0, 1) := by decide +kernel
theorem dX3_trace_9 : decode cX3_trace 9 = .ok (.iconst 0, 1) := by decide +kernel
theorem dX3_trace_10 : decode cX3_trace 10 = .ok (.putfield 24, 3) := by decide +kernel
theorem dX3_trace_13 : decode cX3_trace 13 = .ok (.iconst 0, 1) := by decide +kernel
theorem dX3_trace_14 : decode cX3_trace 14 = .ok (.istore_n 3, 1) := by decide +kernel
theorem dX3_trace_15 : decode cX3_trace 15 = .ok (.iload_n 3, 1) := by decide +kernel
theorem dX3_trace_16 : decode cX3_trace 16 = .ok (.bipush 6, 2) := by decide +kernel
theorem dX3_trace_18 : decode cX3_trace 18 = .ok (.if_icmp .ge 25, 3) := by decide +kernel
theorem dX3_trace_21 : decode cX3_trace 21 = .ok (.aload_n 0, 1) := by decide +kernel
theorem dX3_trace_22 : decode cX3_trace 22 = .ok (.aload_n 1, 1) := by decide +kernel
theorem dX3_trace_23 : decode cX3_trace 23 = .ok (.aload_n 1, 1) := by decide +kernel
theorem dX3_trace_24 : decode cX3_trace 24 = .ok (.getfield 28, 3) := by decide +kernel
theorem dX3_trace_27 : decode cX3_trace 27 = .ok (.iload_n 3, 1) := by decide +kernel
theorem dX3_trace_28 : decode cX3_trace 28 = .ok (.iaload, 1) := by decide +kernel
theorem dX3_trace_29 : decode cX3_trace 29 = .ok (.invokevirtual 33, 3) := by decide +kernel
theorem dX3_trace_32 : decode cX3_trace 32 = .ok (.iconst 0, 1) := by decide +kernel
theorem dX3_trace_33 : decode cX3_trace 33 = .ok (.iload_n 2, 1) := by decide +kernel
theorem dX3_trace_34 : decode cX3_trace 34 = .ok (.invokevirtual 37, 3) := by decide +kernel
theorem dX3_trace_37 : decode cX3_trace 37 = .ok (.iinc 3 1, 3) := by decide +kernel
theorem dX3_trace_40 : decode cX3_trace 40 = .ok (.goto (-25), 3) := by decide +kernel
theorem dX3_trace_43 : decode cX3_trace 43 = .ok (.iconst 0, 1) := by decide +kernel
theorem dX3_trace_44 : decode cX3_trace 44 = .ok (.istore_n 3, 1) := by decide +kernel
theorem dX3_trace_45 : decode cX3_trace 45 = .ok (.iload_n 3, 1) := by decide +kernel
theorem dX3_trace_46 : decode cX3_trace 46 = .ok (.aload_n 1, 1) := by decide +kernel
theorem dX3_trace_47 : decode cX3_trace 47 = .ok (.getfield 41, 3) := by decide +kernel
theorem dX3_trace_50 : decode cX3_trace 50 = .ok (.if_icmp .ge 24, 3) := by decide +kernel
theorem dX3_trace_53 : decode cX3_trace 53 = .ok (.aload_n 1, 1) := by decide +kernel
theorem dX3_trace_54 : decode cX3_trace 54 = .ok (.iload_n 3, 1) := by decide +kernel
theorem dX3_trace_55 : decode cX3_trace 55 = .ok (.invokevirtual 44, 3) := by decide +kernel
theorem dX3_trace_58 : decode cX3_trace 58 = .ok (.ifCond .eq 10, 3) := by decide +kernel
theorem dX3_trace_61 : decode cX3_trace 61 = .ok (.aload_n 0, 1) := by decide +kernel
theorem dX3_trace_62 : decode cX3_trace 62 = .ok (.iload_n 3, 1) := by decide +kernel
theorem dX3_trace_63 : decode cX3_trace 63 = .ok (.iconst 0, 1) := by decide +kernel
theorem dX3_trace_64 : decode cX3_trace 64 = .ok (.iload_n 2, 1) := by decide +kernel
theorem dX3_trace_65 : decode cX3_trace 65 = .ok (.invokevirtual 37, 3) := by decide +kernel
theorem dX3_trace_68 : decode cX3_trace 68 = .ok (.iinc 3 1, 3) := by decide +kernel
theorem dX3_trace_71 : decode cX3_trace 71 = .ok (.goto (-26), 3) := by decide +kernel
theorem dX3_trace_74 : decode cX3_trace 74 = .ok (.iconst 0, 1) := by decide +kernel
theorem dX3_trace_75 : decode cX3_trace 75 = .ok (.istore_n 3, 1) := by decide +kernel
theorem dX3_trace_76 : decode cX3_trace 76 = .ok (.iload_n 3, 1) := by decide +kernel
theorem dX3_trace_77 : decode cX3_trace 77 = .ok (.sipush 200, 3) := by decide +kernel
theorem dX3_trace_80 : decode cX3_trace 80 = .ok (.if_icmp .ge 76, 3) := by decide +kernel
theorem dX3_trace_83 : decode cX3_trace 83 = .ok (.iload_n 3, 1) := by decide +kernel
theorem dX3_trace_84 : decode cX3_trace 84 = .ok (.aload_n 0, 1) := by decide +kernel
theorem dX3_trace_85 : decode cX3_trace 85 = .ok (.getfield 24, 3) := by decide +kernel
theorem dX3_trace_88 : decode cX3_trace 88 = .ok (.if_icmp .ge 68, 3) := by decide +kernel
theorem dX3_trace_91 : decode cX3_trace 91 = .ok (.aload_n 0, 1) := by decide +kernel
theorem dX3_trace_92 : decode cX3_trace 92 = .ok (.getfield 15, 3) := by decide +kernel
theorem dX3_trace_95 : decode cX3_trace 95 = .ok (.iload_n 3, 1) := by decide +kernel
theorem dX3_trace_96 : decode cX3_trace 96 = .ok (.iaload, 1) := by decide +kernel
theorem dX3_trace_97 : decode cX3_trace 97 = .ok (.istore 4, 2) := by decide +kernel
theorem dX3_trace_99 : decode cX3_trace 99 = .ok (.iconst 0, 1) := by decide +kernel
theorem dX3_trace_100 : decode cX3_trace 100 = .ok (.istore 5, 2) := by decide +kernel
theorem dX3_trace_102 : decode cX3_trace 102 = .ok (.iload 5, 2) := by decide +kernel
theorem dX3_trace_104 : decode cX3_trace 104 = .ok (.aload_n 1, 1) := by decide +kernel
theorem dX3_trace_105 : decode cX3_trace 105 = .ok (.getfield 48, 3) := by decide +kernel
theorem dX3_trace_108 : decode cX3_trace 108 = .ok (.iload 4, 2) := by decide +kernel
theorem dX3_trace_110 : decode cX3_trace 110 = .ok (.iaload, 1) := by decide +kernel
theorem dX3_trace_111 : decode cX3_trace 111 = .ok (.if_icmp .ge 39, 3) := by decide +kernel
theorem dX3_trace_114 : decode cX3_trace 114 = .ok (.aload_n 0, 1) := by decide +kernel
theorem dX3_trace_115 : decode cX3_trace 115 = .ok (.aload_n 1, 1) := by decide +kernel
theorem dX3_trace_116 : decode cX3_trace 116 = .ok (.aload_n 1, 1) := by decide +kernel
theorem dX3_trace_117 : decode cX3_trace 117 = .ok (.getfield 51, 3) := by decide +kernel
theorem dX3_trace_120 : decode cX3_trace 120 = .ok (.iload 4, 2) := by decide +kernel
theorem dX3_trace_122 : decode cX3_trace 122 = .ok (.iconst 1, 1) := by decide +kernel
theorem dX3_trace_123 : decode cX3_trace 123 = .ok (.iadd, 1) := by decide +kernel
theorem dX3_trace_124 : decode cX3_trace 124 = .ok (.iload 5, 2) := by decide +kernel
theorem dX3_trace_126 : decode cX3_trace 126 = .ok (.iadd, 1) := by decide +kernel
theorem dX3_trace_127 : decode cX3_trace 127 = .ok (.iaload, 1) := by decide +kernel
theorem dX3_trace_128 : decode cX3_trace 128 = .ok (.invokevirtual 33, 3) := by decide +kernel
theorem dX3_trace_131 : decode cX3_trace 131 = .ok (.aload_n 0, 1) := by decide +kernel
theorem dX3_trace_132 : decode cX3_trace 132 = .ok (.getfield 9, 3) := by decide +kernel
theorem dX3_trace_135 : decode cX3_trace 135 = .ok (.iload 4, 2) := by decide +kernel
theorem dX3_trace_137 : decode cX3_trace 137 = .ok (.iaload, 1) := by decide +kernel
theorem dX3_trace_138 : decode cX3_trace 138 = .ok (.iconst 1, 1) := by decide +kernel
theorem dX3_trace_139 : decode cX3_trace 139 = .ok (.iadd, 1) := by decide +kernel
theorem dX3_trace_140 : decode cX3_trace 140 = .ok (.iload_n 2, 1) := by decide +kernel
theorem dX3_trace_141 : decode cX3_trace 141 = .ok (.invokevirtual 37, 3) := by decide +kernel
theorem dX3_trace_144 : decode cX3_trace 144 = .ok (.iinc 5 1, 3) := by decide +kernel
theorem dX3_trace_147 : decode cX3_trace 147 = .ok (.goto (-45), 3) := by decide +kernel
theorem dX3_trace_150 : decode cX3_trace 150 = .ok (.iinc 3 1, 3) := by decide +kernel
theorem dX3_trace_153 : decode cX3_trace 153 = .ok (.goto (-77), 3) := by decide +kernel
theorem dX3_trace_156 : decode cX3_trace 156 = .ok (.return_, 1) := by decide +kernel
theorem dX3_arrive_0 : decode cX3_arrive 0 = .ok (.iload_n 1, 1) := by decide +kernel
theorem dX3_arrive_1 : decode cX3_arrive 1 = .ok (.iconst (-1), 1) := by decide +kernel
theorem dX3_arrive_2 : decode cX3_arrive 2 = .ok (.if_icmp .eq 28, 3) := by decide +kernel
theorem dX3_arrive_5 : decode cX3_arrive 5 = .ok (.iload_n 1, 1) := by decide +kernel
theorem dX3_arrive_6 : decode cX3_arrive 6 = .ok (.iload_n 3, 1) := by decide +kernel
theorem dX3_arrive_7 : decode cX3_arrive 7 = .ok (.if_icmp .eq 23, 3) := by decide +kernel
theorem dX3_arrive_10 : decode cX3_arrive 10 = .ok (.aload_n 0, 1) := by decide +kernel
theorem dX3_arrive_11 : decode cX3_arrive 11 = .ok (.getfield 9, 3) := by decide +kernel
theorem dX3_arrive_14 : decode cX3_arrive 14 = .ok (.iload_n 1, 1) := by decide +kernel
theorem dX3_arrive_15 : decode cX3_arrive 15 = .ok (.iaload, 1) := by decide +kernel
theorem dX3_arrive_16 : decode cX3_arrive 16 = .ok (.iconst (-1), 1) := by decide +kernel
theorem dX3_arrive_17 : decode cX3_arrive 17 = .ok (.if_icmp .ne 13, 3) := by decide +kernel
theorem dX3_arrive_20 : decode cX3_arrive 20 = .ok (.aload_n 0, 1) := by decide +kernel
theorem dX3_arrive_21 : decode cX3_arrive 21 = .ok (.getfield 24, 3) := by decide +kernel
theorem dX3_arrive_24 : decode cX3_arrive 24 = .ok (.sipush 200, 3) := by decide +kernel
theorem dX3_arrive_27 : decode cX3_arrive 27 = .ok (.if_icmp .lt 4, 3) := by decide +kernel
theorem dX3_arrive_30 : decode cX3_arrive 30 = .ok (.return_, 1) := by decide +kernel
theorem dX3_arrive_31 : decode cX3_arrive 31 = .ok (.aload_n 0, 1) := by decide +kernel
theorem dX3_arrive_32 : decode cX3_arrive 32 = .ok (.getfield 9, 3) := by decide +kernel
theorem dX3_arrive_35 : decode cX3_arrive 35 = .ok (.iload_n 1, 1) := by decide +kernel
theorem dX3_arrive_36 : decode cX3_arrive 36 = .ok (.iload_n 2, 1) := by decide +kernel
theorem dX3_arrive_37 : decode cX3_arrive 37 = .ok (.iastore, 1) := by decide +kernel
theorem dX3_arrive_38 : decode cX3_arrive 38 = .ok (.aload_n 0, 1) := by decide +kernel
theorem dX3_arrive_39 : decode cX3_arrive 39 = .ok (.getfield 15, 3) := by decide +kernel
theorem dX3_arrive_42 : decode cX3_arrive 42 = .ok (.aload_n 0, 1) := by decide +kernel
theorem dX3_arrive_43 : decode cX3_arrive 43 = .ok (.getfield 24, 3) := by decide +kernel
theorem dX3_arrive_46 : decode cX3_arrive 46 = .ok (.iload_n 1, 1) := by decide +kernel
theorem dX3_arrive_47 : decode cX3_arrive 47 = .ok (.iastore, 1) := by decide +kernel
theorem dX3_arrive_48 : decode cX3_arrive 48 = .ok (.aload_n 0, 1) := by decide +kernel
theorem dX3_arrive_49 : decode cX3_arrive 49 = .ok (.dup, 1) := by decide +kernel
theorem dX3_arrive_50 : decode cX3_arrive 50 = .ok (.getfield 24, 3) := by decide +kernel
theorem dX3_arrive_53 : decode cX3_arrive 53 = .ok (.iconst 1, 1) := by decide +kernel
theorem dX3_arrive_54 : decode cX3_arrive 54 = .ok (.iadd, 1) := by decide +kernel
theorem dX3_arrive_55 : decode cX3_arrive 55 = .ok (.putfield 24, 3) := by decide +kernel
theorem dX3_arrive_58 : decode cX3_arrive 58 = .ok (.return_, 1) := by decide +kernel
theorem dX3_liveWords_0 : decode cX3_liveWords 0 = .ok (.iconst 0, 1) := by decide +kernel
theorem dX3_liveWords_1 : decode cX3_liveWords 1 = .ok (.istore_n 2, 1) := by decide +kernel
theorem dX3_liveWords_2 : decode cX3_liveWords 2 = .ok (.iconst 0, 1) := by decide +kernel
theorem dX3_liveWords_3 : decode cX3_liveWords 3 = .ok (.istore_n 3, 1) := by decide +kernel
theorem dX3_liveWords_4 : decode cX3_liveWords 4 = .ok (.iload_n 3, 1) := by decide +kernel
theorem dX3_liveWords_5 : decode cX3_liveWords 5 = .ok (.aload_n 0, 1) := by decide +kernel
theorem dX3_liveWords_6 : decode cX3_liveWords 6 = .ok (.getfield 24, 3) := by decide +kernel
theorem dX3_liveWords_9 : decode cX3_liveWords 9 = .ok (.if_icmp .ge 22, 3) := by decide +kernel
theorem dX3_liveWords_12 : decode cX3_liveWords 12 = .ok (.iload_n 2, 1) := by decide +kernel
theorem dX3_liveWords_13 : decode cX3_liveWords 13 = .ok (.aload_n 1, 1) := by decide +kernel
theorem dX3_liveWords_14 : decode cX3_liveWords 14 = .ok (.aload_n 0, 1) := by decide +kernel
theorem dX3_liveWords_15 : decode cX3_liveWords 15 = .ok (.getfield 15, 3) := by decide +kernel
theorem dX3_liveWords_18 : decode cX3_liveWords 18 = .ok (.iload_n 3, 1) := by decide +kernel
theorem dX3_liveWords_19 : decode cX3_liveWords 19 = .ok (.iaload, 1) := by decide +kernel
theorem dX3_liveWords_20 : decode cX3_liveWords 20 = .ok (.invokevirtual 54, 3) := by decide +kernel
theorem dX3_liveWords_23 : decode cX3_liveWords 23 = .ok (.iadd, 1) := by decide +kernel
theorem dX3_liveWords_24 : decode cX3_liveWords 24 = .ok (.istore_n 2, 1) := by decide +kernel
theorem dX3_liveWords_25 : decode cX3_liveWords 25 = .ok (.iinc 3 1, 3) := by decide +kernel
theorem dX3_liveWords_28 : decode cX3_liveWords 28 = .ok (.goto (-24), 3) := by decide +kernel
theorem dX3_liveWords_31 : decode cX3_liveWords 31 = .ok (.iload_n 2, 1) := by decide +kernel
theorem dX3_liveWords_32 : decode cX3_liveWords 32 = .ok (.ireturn, 1) := by decide +kernel
set_option maxRecDepth 20000 in
theorem ggX4_tally_J7_fill_53178 : GoodIn wsX4_tally wsJ7_fill_53178 := goodIn_r _ [10] (by decide +kernel) (by decide +kernel)
set_option maxRecDepth 20000 in
theorem gX4_tally_J7_fill_53178 : GoodIn wsX4_tally (va_wsS RX4 15 yJ7_fill_53178 wsJ7_fill_53178) := goodIn_app (goodIn_of _ (by decide +kernel)) ggX4_tally_J7_fill_53178
set_option maxRecDepth 20000 in
theorem ggX4_tally_X4_tallyRow : GoodIn wsX4_tally wsX4_tallyRow := goodIn_r _ [15, 1, 16, 17, 18, 19, 20, 21, 22, 23, 24, 25, 26, 31, 32, 33, 34, 35, 36, 37, 38, 39, 40, 41, 42, 43, 44, 45, 46] (by decide +kernel) (by decide +kernel)
set_option maxRecDepth 20000 in
theorem gX4_tally_X4_tallyRow : GoodIn wsX4_tally (wsV RX4 26 RX4 yX4_tallyRow wsX4_tallyRow) := goodIn_app (goodIn_of _ (by decide +kernel)) ggX4_tally_X4_tallyRow
set_option maxRecDepth 20000 in
theorem ggX4_tally_X1_isObject : GoodIn wsX4_tally wsX1_isObject := goodIn_r _ [30, 21, 22, 23, 24, 19, 25, 26, 32, 33, 34, 35, 36, 37, 38, 39, 40, 41, 42, 43, 44, 45, 46] (by decide +kernel) (by decide +kernel)
set_option maxRecDepth 20000 in
theorem gX4_tally_X1_isObject : GoodIn wsX4_tally (wsV RX4 37 RX1 yX1_isObject wsX1_isObject) := goodIn_app (goodIn_of _ (by decide +kernel)) ggX4_tally_X1_isObject
set_option maxRecDepth 20000 in
theorem ggX4_tallyRow_X1_objectAt : GoodIn wsX4_tallyRow wsX1_objectAt := goodIn_r _ [6, 7, 8, 9, 10, 5, 11, 12, 14, 15, 16, 17, 18, 19, 20, 21, 22, 23, 24, 25, 26, 27, 28] (by decide +kernel) (by decide +kernel)
set_option maxRecDepth 20000 in
theorem gX4_tallyRow_X1_objectAt : GoodIn wsX4_tallyRow (wsV RX4 47 RX1 yX1_objectAt wsX1_objectAt) := goodIn_app (goodIn_of _ (by decide +kernel)) ggX4_tallyRow_X1_objectAt
theorem dX4_init_0 : decode cX4_init 0 = .ok (.aload_n 0, 1) := by decide +kernel
theorem dX4_init_1 : decode cX4_init 1 = .ok (.invokespecial 3, 3) := by decide +kernel
theorem dX4_init_4 : decode cX4_init 4 = .ok (.aload_n 0, 1) := by decide +kernel
theorem dX4_init_5 : decode cX4_init 5 = .ok (.sipush 200, 3) := by decide +kernel
theorem dX4_init_8 : decode cX4_init 8 = .ok (.newarray .int, 2) := by decide +kernel
theorem dX4_init_10 : decode cX4_init 10 = .ok (.putfield 9, 3) := by decide +kernel
theorem dX4_init_13 : decode cX4_init 13 = .ok (.return_, 1) := by decide +kernel
theorem dX4_tally_0 : decode cX4_tally 0 = .ok (.aload_n 0, 1) := by decide +kernel
theorem dX4_tally_1 : decode cX4_tally 1 = .ok (.getfield 9, 3) := by decide +kernel
theorem dX4_tally_4 : decode cX4_tally 4 = .ok (.iconst 0, 1) := by decide +kernel
theorem dX4_tally_5 : decode cX4_tally 5 = .ok (.invokestatic 15, 3) := by decide +kernel
theorem dX4_tally_8 : decode cX4_tally 8 = .ok (.aload_n 0, 1) := by decide +kernel
theorem dX4_tally_9 : decode cX4_tally 9 = .ok (.aload_n 1, 1) := by decide +kernel
theorem dX4_tally_10 : decode cX4_tally 10 = .ok (.aload_n 1, 1) := by decide +kernel
theorem dX4_tally_11 : decode cX4_tally 11 = .ok (.getfield 21, 3) := by decide +kernel
theorem dX4_tally_14 : decode cX4_tally 14 = .ok (.iconst 0, 1) := by decide +kernel
theorem dX4_tally_15 : decode cX4_tally 15 = .ok (.bipush 6, 2) := by decide +kernel
theorem dX4_tally_17 : decode cX4_tally 17 = .ok (.invokevirtual 26, 3) := by decide +kernel
theorem dX4_tally_20 : decode cX4_tally 20 = .ok (.aload_n 0, 1) := by decide +kernel
theorem dX4_tally_21 : decode cX4_tally 21 = .ok (.aload_n 1, 1) := by decide +kernel
theorem dX4_tally_22 : decode cX4_tally 22 = .ok (.aload_n 1, 1) := by decide +kernel
theorem dX4_tally_23 : decode cX4_tally 23 = .ok (.getfield 30, 3) := by decide +kernel
theorem dX4_tally_26 : decode cX4_tally 26 = .ok (.iconst 0, 1) := by decide +kernel
theorem dX4_tally_27 : decode cX4_tally 27 = .ok (.iconst 4, 1) := by decide +kernel
theorem dX4_tally_28 : decode cX4_tally 28 = .ok (.invokevirtual 26, 3) := by decide +kernel
theorem dX4_tally_31 : decode cX4_tally 31 = .ok (.iconst 0, 1) := by decide +kernel
theorem dX4_tally_32 : decode cX4_tally 32 = .ok (.istore_n 2, 1) := by decide +kernel
theorem dX4_tally_33 : decode cX4_tally 33 = .ok (.iload_n 2, 1) := by decide +kernel
theorem dX4_tally_34 : decode cX4_tally 34 = .ok (.aload_n 1, 1) := by decide +kernel
theorem dX4_tally_35 : decode cX4_tally 35 = .ok (.getfield 33, 3) := by decide +kernel
theorem dX4_tally_38 : decode cX4_tally 38 = .ok (.if_icmp .ge 39, 3) := by decide +kernel
theorem dX4_tally_41 : decode cX4_tally 41 = .ok (.aload_n 1, 1) := by decide +kernel
theorem dX4_tally_42 : decode cX4_tally 42 = .ok (.iload_n 2, 1) := by decide +kernel
theorem dX4_tally_43 : decode cX4_tally 43 = .ok (.invokevirtual 37, 3) := by decide +kernel
theorem dX4_tally_46 : decode cX4_tally 46 = .ok (.ifCond .eq 25, 3) := by decide +kernel
theorem dX4_tally_49 : decode cX4_tally 49 = .ok (.aload_n 0, 1) := by decide +kernel
theorem dX4_tally_50 : decode cX4_tally 50 = .ok (.aload_n 1, 1) := by decide +kernel
theorem dX4_tally_51 : decode cX4_tally 51 = .ok (.aload_n 1, 1) := by decide +kernel
theorem dX4_tally_52 : decode cX4_tally 52 = .ok (.getfield 41, 3) := by decide +kernel
theorem dX4_tally_55 : decode cX4_tally 55 = .ok (.iload_n 2, 1) := by decide +kernel
theorem dX4_tally_56 : decode cX4_tally 56 = .ok (.iconst 1, 1) := by decide +kernel
theorem dX4_tally_57 : decode cX4_tally 57 = .ok (.iadd, 1) := by decide +kernel
theorem dX4_tally_58 : decode cX4_tally 58 = .ok (.iload_n 2, 1) := by decide +kernel
theorem dX4_tally_59 : decode cX4_tally 59 = .ok (.iconst 1, 1) := by decide +kernel
theorem dX4_tally_60 : decode cX4_tally 60 = .ok (.iadd, 1) := by decide +kernel
theorem dX4_tally_61 : decode cX4_tally 61 = .ok (.aload_n 1, 1) := by decide +kernel
theorem dX4_tally_62 : decode cX4_tally 62 = .ok (.getfield 44, 3) := by decide +kernel
theorem dX4_tally_65 : decode cX4_tally 65 = .ok (.iload_n 2, 1) := by decide +kernel
theorem dX4_tally_66 : decode cX4_tally 66 = .ok (.iaload, 1) := by decide +kernel
theorem dX4_tally_67 : decode cX4_tally 67 = .ok (.iadd, 1) := by decide +kernel
theorem dX4_tally_68 : decode cX4_tally 68 = .ok (.invokevirtual 26, 3) := by decide +kernel
theorem dX4_tally_71 : decode cX4_tally 71 = .ok (.iinc 2 1, 3) := by decide +kernel
theorem dX4_tally_74 : decode cX4_tally 74 = .ok (.goto (-41), 3) := by decide +kernel
theorem dX4_tally_77 : decode cX4_tally 77 = .ok (.return_, 1) := by decide +kernel
theorem dX4_tallyRow_0 : decode cX4_tallyRow 0 = .ok (.iload_n 3, 1) := by decide +kernel
theorem dX4_tallyRow_1 : decode cX4_tallyRow 1 = .ok (.istore 5, 2) := by decide +kernel
theorem dX4_tallyRow_3 : decode cX4_tallyRow 3 = .ok (.iload 5, 2) := by decide +kernel
theorem dX4_tallyRow_5 : decode cX4_tallyRow 5 = .ok (.iload 4, 2) := by decide +kernel
theorem dX4_tallyRow_7 : decode cX4_tallyRow 7 = .ok (.if_icmp .ge 43, 3) := by decide +kernel
theorem dX4_tallyRow_10 : decode cX4_tallyRow 10 = .ok (.iload 5, 2) := by decide +kernel
theorem dX4_tallyRow_12 : decode cX4_tallyRow 12 = .ok (.aload_n 2, 1) := by decide +kernel
theorem dX4_tallyRow_13 : decode cX4_tallyRow 13 = .ok (.arraylength, 1) := by decide +kernel
theorem dX4_tallyRow_14 : decode cX4_tallyRow 14 = .ok (.if_icmp .ge 36, 3) := by decide +kernel
theorem dX4_tallyRow_17 : decode cX4_tallyRow 17 = .ok (.aload_n 1, 1) := by decide +kernel
theorem dX4_tallyRow_18 : decode cX4_tallyRow 18 = .ok (.aload_n 2, 1) := by decide +kernel
theorem dX4_tallyRow_19 : decode cX4_tallyRow 19 = .ok (.iload 5, 2) := by decide +kernel
theorem dX4_tallyRow_21 : decode cX4_tallyRow 21 = .ok (.iaload, 1) := by decide +kernel
theorem dX4_tallyRow_22 : decode cX4_tallyRow 22 = .ok (.invokevirtual 47, 3) := by decide +kernel
theorem dX4_tallyRow_25 : decode cX4_tallyRow 25 = .ok (.istore 6, 2) := by decide +kernel
theorem dX4_tallyRow_27 : decode cX4_tallyRow 27 = .ok (.iload 6, 2) := by decide +kernel
theorem dX4_tallyRow_29 : decode cX4_tallyRow 29 = .ok (.iconst (-1), 1) := by decide +kernel
theorem dX4_tallyRow_30 : decode cX4_tallyRow 30 = .ok (.if_icmp .eq 14, 3) := by decide +kernel
theorem dX4_tallyRow_33 : decode cX4_tallyRow 33 = .ok (.aload_n 0, 1) := by decide +kernel
theorem dX4_tallyRow_34 : decode cX4_tallyRow 34 = .ok (.getfield 9, 3) := by decide +kernel
theorem dX4_tallyRow_37 : decode cX4_tallyRow 37 = .ok (.iload 6, 2) := by decide +kernel
theorem dX4_tallyRow_39 : decode cX4_tallyRow 39 = .ok (.dup2, 1) := by decide +kernel
theorem dX4_tallyRow_40 : decode cX4_tallyRow 40 = .ok (.iaload, 1) := by decide +kernel
theorem dX4_tallyRow_41 : decode cX4_tallyRow 41 = .ok (.iconst 1, 1) := by decide +kernel
theorem dX4_tallyRow_42 : decode cX4_tallyRow 42 = .ok (.iadd, 1) := by decide +kernel
theorem dX4_tallyRow_43 : decode cX4_tallyRow 43 = .ok (.iastore, 1) := by decide +kernel
theorem dX4_tallyRow_44 : decode cX4_tallyRow 44 = .ok (.iinc 5 1, 3) := by decide +kernel
theorem dX4_tallyRow_47 : decode cX4_tallyRow 47 = .ok (.goto (-44), 3) := by decide +kernel
theorem dX4_tallyRow_50 : decode cX4_tallyRow 50 = .ok (.return_, 1) := by decide +kernel
set_option maxRecDepth 20000 in
theorem ggX5_read_X5_skipBlanks : GoodIn wsX5_read wsX5_skipBlanks := goodIn_r _ [9, 3, 4, 10, 46, 47, 48, 49, 50, 51, 52, 53, 54] (by decide +kernel) (by decide +kernel)
set_option maxRecDepth 20000 in
theorem gX5_read_X5_skipBlanks : GoodIn wsX5_read (wsV RX5 37 RX5 yX5_skipBlanks wsX5_skipBlanks) := goodIn_app (goodIn_of _ (by decide +kernel)) ggX5_read_X5_skipBlanks
set_option maxRecDepth 20000 in
theorem ggX5_read_X5_readCommand : GoodIn wsX5_read wsX5_readCommand := goodIn_r _ [14, 3, 15, 16, 17, 18, 1, 19, 20, 21, 8, 22, 4, 10, 23, 24, 25, 26, 5, 6, 7, 9, 27, 28, 29, 30, 31, 32, 33, 2, 34, 35, 36, 37, 38, 39, 40, 41, 42, 43, 44, 45, 46, 47, 48, 49, 50, 51, 52, 53, 54] (by decide +kernel) (by decide +kernel)
set_option maxRecDepth 20000 in
theorem gX5_read_X5_readCommand : GoodIn wsX5_read (wsV RX5 43 RX5 yX5_readCommand wsX5_readCommand) := goodIn_app (goodIn_of _ (by decide +kernel)) ggX5_read_X5_readCommand
set_option maxRecDepth 20000 in
theorem ggX5_readCommand_X5_letter : GoodIn wsX5_readCommand wsX5_letter := goodIn_r _ [11, 1, 12, 13, 42, 43, 44, 45, 46, 47, 48, 49, 50] (by decide +kernel) (by decide +kernel)
set_option maxRecDepth 20000 in
theorem gX5_readCommand_X5_letter : GoodIn wsX5_readCommand (wsV RX5 47 RX5 yX5_letter wsX5_letter) := goodIn_app (goodIn_of _ (by decide +kernel)) ggX5_readCommand_X5_letter
set_option maxRecDepth 20000 in
theorem ggX5_readCommand_X5_readDigit : GoodIn wsX5_readCommand wsX5_readDigit := goodIn_r _ [17, 1, 18, 19, 20, 10, 21, 12, 13, 7, 8, 9, 11, 22, 23, 24, 25, 26, 27, 28, 29, 42, 43, 44, 45, 46, 47, 48, 49, 50] (by decide +kernel) (by decide +kernel)
set_option maxRecDepth 20000 in
theorem gX5_readCommand_X5_readDigit : GoodIn wsX5_readCommand (wsV RX5 51 RX5 yX5_readDigit wsX5_readDigit) := goodIn_app (goodIn_of _ (by decide +kernel)) ggX5_readCommand_X5_readDigit
set_option maxRecDepth 20000 in
theorem ggX5_readCommand_X5_readPlace : GoodIn wsX5_readCommand wsX5_readPlace := goodIn_r _ [33, 1, 18, 19, 20, 10, 21, 12, 13, 7, 8, 9, 11, 34, 35, 36, 37, 14, 15, 16, 17, 22, 23, 24, 25, 26, 27, 28, 29, 42, 43, 44, 45, 46, 47, 48, 49, 50] (by decide +kernel) (by decide +kernel)
set_option maxRecDepth 20000 in
theorem gX5_readCommand_X5_readPlace : GoodIn wsX5_readCommand (wsV RX5 54 RX5 yX5_readPlace wsX5_readPlace) := goodIn_app (goodIn_of _ (by decide +kernel)) ggX5_readCommand_X5_readPlace
set_option maxRecDepth 20000 in
theorem ggX5_readCommand_X5_readNumber : GoodIn wsX5_readCommand wsX5_readNumber := goodIn_r _ [37, 1, 14, 15, 16, 10, 17, 18, 19, 20, 21, 12, 13, 7, 8, 9, 11, 22, 23, 24, 25, 26, 27, 28, 29, 42, 43, 44, 45, 46, 47, 48, 49, 50] (by decide +kernel) (by decide +kernel)
set_option maxRecDepth 20000 in
theorem gX5_readCommand_X5_readNumber : GoodIn wsX5_readCommand (wsV RX5 57 RX5 yX5_readNumber wsX5_readNumber) := goodIn_app (goodIn_of _ (by decide +kernel)) ggX5_readCommand_X5_readNumber
set_option maxRecDepth 20000 in
theorem ggX5_readCommand_X5_refuse : GoodIn wsX5_readCommand wsX5_refuse := goodIn_r _ [28, 29, 1, 42, 43, 44, 45, 46, 47, 48, 49, 50] (by decide +kernel) (by decide +kernel)
set_option maxRecDepth 20000 in
theorem gX5_readCommand_X5_refuse : GoodIn wsX5_readCommand (wsV RX5 60 RX5 yX5_refuse wsX5_refuse) := goodIn_app (goodIn_of _ (by decide +kernel)) ggX5_readCommand_X5_refuse
set_option maxRecDepth 20000 in
theorem ggX5_readCommand_X5_readEnd : GoodIn wsX5_readCommand wsX5_readEnd := goodIn_r _ [41, 1, 18, 19, 20, 10, 21, 12, 13, 7, 8, 9, 11, 25, 26, 27, 28, 29, 42, 43, 44, 45, 46, 47, 48, 49, 50] (by decide +kernel) (by decide +kernel)
set_option maxRecDepth 20000 in
theorem gX5_readCommand_X5_readEnd : GoodIn wsX5_readCommand (wsV RX5 63 RX5 yX5_readEnd wsX5_readEnd) := goodIn_app (goodIn_of _ (by decide +kernel)) ggX5_readCommand_X5_readEnd
set_option maxRecDepth 20000 in
theorem ggX5_readPlace_X5_skipBlanks : GoodIn wsX5_readPlace wsX5_skipBlanks := goodIn_r _ [6, 1, 7, 8, 29, 30, 31, 32, 33, 34, 35, 36, 37] (by decide +kernel) (by decide +kernel)
set_option maxRecDepth 20000 in
theorem gX5_readPlace_X5_skipBlanks : GoodIn wsX5_readPlace (wsV RX5 37 RX5 yX5_skipBlanks wsX5_skipBlanks) := goodIn_app (goodIn_of _ (by decide +kernel)) ggX5_readPlace_X5_skipBlanks
set_option maxRecDepth 20000 in
theorem ggX5_readPlace_X5_letter : GoodIn wsX5_readPlace wsX5_letter := goodIn_r _ [12, 1, 7, 8, 29, 30, 31, 32, 33, 34, 35, 36, 37] (by decide +kernel) (by decide +kernel)
set_option maxRecDepth 20000 in
theorem gX5_readPlace_X5_letter : GoodIn wsX5_readPlace (wsV RX5 47 RX5 yX5_letter wsX5_letter) := goodIn_app (goodIn_of _ (by decide +kernel)) ggX5_readPlace_X5_letter
set_option maxRecDepth 20000 in
theorem ggX5_readPlace_X5_readNumber : GoodIn wsX5_readPlace wsX5_readNumber := goodIn_r _ [16, 1, 17, 18, 19, 5, 20, 2, 3, 4, 6, 7, 8, 9, 10, 11, 12, 21, 22, 23, 24, 25, 26, 27, 28, 29, 30, 31, 32, 33, 34, 35, 36, 37] (by decide +kernel) (by decide +kernel)
set_option maxRecDepth 20000 in
theorem gX5_readPlace_X5_readNumber : GoodIn wsX5_readPlace (wsV RX5 57 RX5 yX5_readNumber wsX5_readNumber) := goodIn_app (goodIn_of _ (by decide +kernel)) ggX5_readPlace_X5_readNumber
set_option maxRecDepth 20000 in
theorem ggX5_readNumber_X5_readDigit : GoodIn wsX5_readNumber wsX5_readDigit := goodIn_r _ [6, 1, 7, 8, 9, 5, 10, 11, 12, 13, 14, 15, 16, 17, 18, 19, 20, 21, 22, 23, 24, 25, 26, 27, 28, 29, 30, 31, 32, 33] (by decide +kernel) (by decide +kernel)
set_option maxRecDepth 20000 in
theorem gX5_readNumber_X5_readDigit : GoodIn wsX5_readNumber (wsV RX5 51 RX5 yX5_readDigit wsX5_readDigit) := goodIn_app (goodIn_of _ (by decide +kernel)) ggX5_readNumber_X5_readDigit
set_option maxRecDepth 20000 in
theorem ggX5_readNumber_X5_letter : GoodIn wsX5_readNumber wsX5_letter := goodIn_r _ [16, 1, 11, 12, 25, 26, 27, 28, 29, 30, 31, 32, 33] (by decide +kernel) (by decide +kernel)
set_option maxRecDepth 20000 in
theorem gX5_readNumber_X5_letter : GoodIn wsX5_readNumber (wsV RX5 47 RX5 yX5_letter wsX5_letter) := goodIn_app (goodIn_of _ (by decide +kernel)) ggX5_readNumber_X5_letter
set_option maxRecDepth 20000 in
theorem ggX5_readNumber_X5_isDigit : GoodIn wsX5_readNumber wsX5_isDigit := goodIn_r _ [19] (by decide +kernel) (by decide +kernel)
set_option maxRecDepth 20000 in
theorem gX5_readNumber_X5_isDigit : GoodIn wsX5_readNumber (va_wsS RX5 66 yX5_isDigit wsX5_isDigit) := goodIn_app (goodIn_of _ (by decide +kernel)) ggX5_readNumber_X5_isDigit
set_option maxRecDepth 20000 in
theorem ggX5_readNumber_X5_refuse : GoodIn wsX5_readNumber wsX5_refuse := goodIn_r _ [23, 24, 1, 25, 26, 27, 28, 29, 30, 31, 32, 33] (by decide +kernel) (by decide +kernel)
set_option maxRecDepth 20000 in
theorem gX5_readNumber_X5_refuse : GoodIn wsX5_readNumber (wsV RX5 60 RX5 yX5_refuse wsX5_refuse) := goodIn_app (goodIn_of _ (by decide +kernel)) ggX5_readNumber_X5_refuse
set_option maxRecDepth 20000 in
theorem ggX5_readDigit_X5_skipBlanks : GoodIn wsX5_readDigit wsX5_skipBlanks := goodIn_r _ [6, 1, 7, 8, 21, 22, 23, 24, 25, 26, 27, 28, 29] (by decide +kernel) (by decide +kernel)
set_option maxRecDepth 20000 in
theorem gX5_readDigit_X5_skipBlanks : GoodIn wsX5_readDigit (wsV RX5 37 RX5 yX5_skipBlanks wsX5_skipBlanks) := goodIn_app (goodIn_of _ (by decide +kernel)) ggX5_readDigit_X5_skipBlanks
set_option maxRecDepth 20000 in
theorem ggX5_readDigit_X5_letter : GoodIn wsX5_readDigit wsX5_letter := goodIn_r _ [12, 1, 7, 8, 21, 22, 23, 24, 25, 26, 27, 28, 29] (by decide +kernel) (by decide +kernel)
set_option maxRecDepth 20000 in
theorem gX5_readDigit_X5_letter : GoodIn wsX5_readDigit (wsV RX5 47 RX5 yX5_letter wsX5_letter) := goodIn_app (goodIn_of _ (by decide +kernel)) ggX5_readDigit_X5_letter
set_option maxRecDepth 20000 in
theorem ggX5_readDigit_X5_isDigit : GoodIn wsX5_readDigit wsX5_isDigit := goodIn_r _ [15] (by decide +kernel) (by decide +kernel)
set_option maxRecDepth 20000 in
theorem gX5_readDigit_X5_isDigit : GoodIn wsX5_readDigit (va_wsS RX5 66 yX5_isDigit wsX5_isDigit) := goodIn_app (goodIn_of _ (by decide +kernel)) ggX5_readDigit_X5_isDigit
set_option maxRecDepth 20000 in
theorem ggX5_readDigit_X5_refuse : GoodIn wsX5_readDigit wsX5_refuse := goodIn_r _ [19, 20, 1, 21, 22, 23, 24, 25, 26, 27, 28, 29] (by decide +kernel) (by decide +kernel)
set_option maxRecDepth 20000 in
theorem gX5_readDigit_X5_refuse : GoodIn wsX5_readDigit (wsV RX5 60 RX5 yX5_refuse wsX5_refuse) := goodIn_app (goodIn_of _ (by decide +kernel)) ggX5_readDigit_X5_refuse
set_option maxRecDepth 20000 in
theorem ggX5_readEnd_X5_skipBlanks : GoodIn wsX5_readEnd wsX5_skipBlanks := goodIn_r _ [6, 1, 7, 8, 18, 19, 20, 21, 22, 23, 24, 25, 26] (by decide +kernel) (by decide +kernel)
set_option maxRecDepth 20000 in
theorem gX5_readEnd_X5_skipBlanks : GoodIn wsX5_readEnd (wsV RX5 37 RX5 yX5_skipBlanks wsX5_skipBlanks) := goodIn_app (goodIn_of _ (by decide +kernel)) ggX5_readEnd_X5_skipBlanks
set_option maxRecDepth 20000 in
theorem ggX5_readEnd_X5_letter : GoodIn wsX5_readEnd wsX5_letter := goodIn_r _ [12, 1, 7, 8, 18, 19, 20, 21, 22, 23, 24, 25, 26] (by decide +kernel) (by decide +kernel)
set_option maxRecDepth 20000 in
theorem gX5_readEnd_X5_letter : GoodIn wsX5_readEnd (wsV RX5 47 RX5 yX5_letter wsX5_letter) := goodIn_app (goodIn_of _ (by decide +kernel)) ggX5_readEnd_X5_letter
set_option maxRecDepth 20000 in
theorem ggX5_readEnd_X5_refuse : GoodIn wsX5_readEnd wsX5_refuse := goodIn_r _ [16, 17, 1, 18, 19, 20, 21, 22, 23, 24, 25, 26] (by decide +kernel) (by decide +kernel)
set_option maxRecDepth 20000 in
theorem gX5_readEnd_X5_refuse : GoodIn wsX5_readEnd (wsV RX5 60 RX5 yX5_refuse wsX5_refuse) := goodIn_app (goodIn_of _ (by decide +kernel)) ggX5_readEnd_X5_refuse
theorem dX5_init_0 : decode cX5_init 0 = .ok (.aload_n 0, 1) := by decide +kernel
theorem dX5_init_1 : decode cX5_init 1 = .ok (.invokespecial 3, 3) := by decide +kernel
theorem dX5_init_4 : decode cX5_init 4 = .ok (.aload_n 0, 1) := by decide +kernel
theorem dX5_init_5 : decode cX5_init 5 = .ok (.bipush 80, 2) := by decide +kernel
theorem dX5_init_7 : decode cX5_init 7 = .ok (.newarray .int, 2) := by decide +kernel
theorem dX5_init_9 : decode cX5_init 9 = .ok (.putfield 9, 3) := by decide +kernel
theorem dX5_init_12 : decode cX5_init 12 = .ok (.aload_n 0, 1) := by decide +kernel
theorem dX5_init_13 : decode cX5_init 13 = .ok (.bipush 40, 2) := by decide +kernel
theorem dX5_init_15 : decode cX5_init 15 = .ok (.newarray .int, 2) := by decide +kernel
theorem dX5_init_17 : decode cX5_init 17 = .ok (.putfield 15, 3) := by decide +kernel
theorem dX5_init_20 : decode cX5_init 20 = .ok (.aload_n 0, 1) := by decide +kernel
theorem dX5_init_21 : decode cX5_init 21 = .ok (.bipush 40, 2) := by decide +kernel
theorem dX5_init_23 : decode cX5_init 23 = .ok (.newarray .int, 2) := by decide +kernel
theorem dX5_init_25 : decode cX5_init 25 = .ok (.putfield 18, 3) := by decide +kernel
theorem dX5_init_28 : decode cX5_init 28 = .ok (.aload_n 0, 1) := by decide +kernel
theorem dX5_init_29 : decode cX5_init 29 = .ok (.bipush 40, 2) := by decide +kernel
theorem dX5_init_31 : decode cX5_init 31 = .ok (.newarray .int, 2) := by decide +kernel
theorem dX5_init_33 : decode cX5_init 33 = .ok (.putfield 21, 3) := by decide +kernel
theorem dX5_init_36 : decode cX5_init 36 = .ok (.aload_n 0, 1) := by decide +kernel
theorem dX5_init_37 : decode cX5_init 37 = .ok (.bipush 40, 2) := by decide +kernel
theorem dX5_init_39 : decode cX5_init 39 = .ok (.newarray .int, 2) := by decide +kernel
theorem dX5_init_41 : decode cX5_init 41 = .ok (.putfield 24, 3) := by decide +kernel
theorem dX5_init_44 : decode cX5_init 44 = .ok (.return_, 1) := by decide +kernel
theorem dX5_read_0 : decode cX5_read 0 = .ok (.aload_n 0, 1) := by decide +kernel
theorem dX5_read_1 : decode cX5_read 1 = .ok (.iconst 0, 1) := by decide +kernel
theorem dX5_read_2 : decode cX5_read 2 = .ok (.putfield 27, 3) := by decide +kernel
theorem dX5_read_5 : decode cX5_read 5 = .ok (.aload_n 0, 1) := by decide +kernel
theorem dX5_read_6 : decode cX5_read 6 = .ok (.iconst (-1), 1) := by decide +kernel
theorem dX5_read_7 : decode cX5_read 7 = .ok (.putfield 31, 3) := by decide +kernel
theorem dX5_read_10 : decode cX5_read 10 = .ok (.aload_n 0, 1) := by decide +kernel
theorem dX5_read_11 : decode cX5_read 11 = .ok (.iconst 0, 1) := by decide +kernel
theorem dX5_read_12 : decode cX5_read 12 = .ok (.putfield 34, 3) := by decide +kernel
theorem dX5_read_15 : decode cX5_read 15 = .ok (.aload_n 0, 1) := by decide +kernel
theorem dX5_read_16 : decode cX5_read 16 = .ok (.invokevirtual 37, 3) := by decide +kernel
theorem dX5_read_19 : decode cX5_read 19 = .ok (.iconst 0, 1) := by decide +kernel
theorem dX5_read_20 : decode cX5_read 20 = .ok (.istore_n 1, 1) := by decide +kernel
theorem dX5_read_21 : decode cX5_read 21 = .ok (.iload_n 1, 1) := by decide +kernel
theorem dX5_read_22 : decode cX5_read 22 = .ok (.bipush 40, 2) := by decide +kernel
theorem dX5_read_24 : decode cX5_read 24 = .ok (.if_icmp .ge 37, 3) := by decide +kernel
theorem dX5_read_27 : decode cX5_read 27 = .ok (.aload_n 0, 1) := by decide +kernel
theorem dX5_read_28 : decode cX5_read 28 = .ok (.getfield 34, 3) := by decide +kernel
theorem dX5_read_31 : decode cX5_read 31 = .ok (.aload_n 0, 1) := by decide +kernel
theorem dX5_read_32 : decode cX5_read 32 = .ok (.getfield 40, 3) := by decide +kernel
theorem dX5_read_35 : decode cX5_read 35 = .ok (.if_icmp .ge 26, 3) := by decide +kernel
theorem dX5_read_38 : decode cX5_read 38 = .ok (.aload_n 0, 1) := by decide +kernel
theorem dX5_read_39 : decode cX5_read 39 = .ok (.getfield 31, 3) := by decide +kernel
theorem dX5_read_42 : decode cX5_read 42 = .ok (.iconst (-1), 1) := by decide +kernel
theorem dX5_read_43 : decode cX5_read 43 = .ok (.if_icmp .ne 18, 3) := by decide +kernel
theorem dX5_read_46 : decode cX5_read 46 = .ok (.aload_n 0, 1) := by decide +kernel
theorem dX5_read_47 : decode cX5_read 47 = .ok (.iload_n 1, 1) := by decide +kernel
theorem dX5_read_48 : decode cX5_read 48 = .ok (.invokevirtual 43, 3) := by decide +kernel
theorem dX5_read_51 : decode cX5_read 51 = .ok (.aload_n 0, 1) := by decide +kernel
theorem dX5_read_52 : decode cX5_read 52 = .ok (.invokevirtual 37, 3) := by decide +kernel
theorem dX5_read_55 : decode cX5_read 55 = .ok (.iinc 1 1, 3) := by decide +kernel
theorem dX5_read_58 : decode cX5_read 58 = .ok (.goto (-37), 3) := by decide +kernel
theorem dX5_read_61 : decode cX5_read 61 = .ok (.return_, 1) := by decide +kernel
theorem dX5_readCommand_0 : decode cX5_readCommand 0 = .ok (.aload_n 0, 1) := by decide +kernel
theorem dX5_readCommand_1 : decode cX5_readCommand 1 = .ok (.invokevirtual 47, 3) := by decide +kernel
theorem dX5_readCommand_4 : decode cX5_readCommand 4 = .ok (.istore_n 2, 1) := by decide +kernel
theorem dX5_readCommand_5 : decode cX5_readCommand 5 = .ok (.aload_n 0, 1) := by decide +kernel
theorem dX5_readCommand_6 : decode cX5_readCommand 6 = .ok (.dup, 1) := by decide +kernel
theorem dX5_readCommand_7 : decode cX5_readCommand 7 = .ok (.getfield 34, 3) := by decide +kernel
theorem dX5_readCommand_10 : decode cX5_readCommand 10 = .ok (.iconst 1, 1) := by decide +kernel
theorem dX5_readCommand_11 : decode cX5_readCommand 11 = .ok (.iadd, 1) := by decide +kernel
theorem dX5_readCommand_12 : decode cX5_readCommand 12 = .ok (.putfield 34, 3) := by decide +kernel
theorem dX5_readCommand_15 : decode cX5_readCommand 15 = .ok (.iload_n 2, 1) := by decide +kernel
theorem dX5_readCommand_16 : decode cX5_readCommand 16 = .ok (.tableswitch 195 99 119 #[192, 195, 195, 146, 195, 195, 195, 195, 195, 195, 195, 100, 195, 179, 195, 123, 195, 195, 179, 195, 123], 100) := by decide +kernel
theorem dX5_readCommand_116 : decode cX5_readCommand 116 = .ok (.aload_n 0, 1) := by decide +kernel
theorem dX5_readCommand_117 : decode cX5_readCommand 117 = .ok (.getfield 18, 3) := by decide +kernel
theorem dX5_readCommand_120 : decode cX5_readCommand 120 = .ok (.iload_n 1, 1) := by decide +kernel
theorem dX5_readCommand_121 : decode cX5_readCommand 121 = .ok (.aload_n 0, 1) := by decide +kernel
theorem dX5_readCommand_122 : decode cX5_readCommand 122 = .ok (.invokevirtual 51, 3) := by decide +kernel
theorem dX5_readCommand_125 : decode cX5_readCommand 125 = .ok (.iastore, 1) := by decide +kernel
theorem dX5_readCommand_126 : decode cX5_readCommand 126 = .ok (.aload_n 0, 1) := by decide +kernel
theorem dX5_readCommand_127 : decode cX5_readCommand 127 = .ok (.getfield 21, 3) := by decide +kernel
theorem dX5_readCommand_130 : decode cX5_readCommand 130 = .ok (.iload_n 1, 1) := by decide +kernel
theorem dX5_readCommand_131 : decode cX5_readCommand 131 = .ok (.aload_n 0, 1) := by decide +kernel
theorem dX5_readCommand_132 : decode cX5_readCommand 132 = .ok (.invokevirtual 51, 3) := by decide +kernel
theorem dX5_readCommand_135 : decode cX5_readCommand 135 = .ok (.iastore, 1) := by decide +kernel
theorem dX5_readCommand_136 : decode cX5_readCommand 136 = .ok (.goto 89, 3) := by decide +kernel
theorem dX5_readCommand_139 : decode cX5_readCommand 139 = .ok (.aload_n 0, 1) := by decide +kernel
theorem dX5_readCommand_140 : decode cX5_readCommand 140 = .ok (.getfield 18, 3) := by decide +kernel
theorem dX5_readCommand_143 : decode cX5_readCommand 143 = .ok (.iload_n 1, 1) := by decide +kernel
theorem dX5_readCommand_144 : decode cX5_readCommand 144 = .ok (.aload_n 0, 1) := by decide +kernel
theorem dX5_readCommand_145 : decode cX5_readCommand 145 = .ok (.invokevirtual 51, 3) := by decide +kernel
theorem dX5_readCommand_148 : decode cX5_readCommand 148 = .ok (.iastore, 1) := by decide +kernel
theorem dX5_readCommand_149 : decode cX5_readCommand 149 = .ok (.aload_n 0, 1) := by decide +kernel
theorem dX5_readCommand_150 : decode cX5_readCommand 150 = .ok (.getfield 21, 3) := by decide +kernel
theorem dX5_readCommand_153 : decode cX5_readCommand 153 = .ok (.iload_n 1, 1) := by decide +kernel
theorem dX5_readCommand_154 : decode cX5_readCommand 154 = .ok (.aload_n 0, 1) := by decide +kernel
theorem dX5_readCommand_155 : decode cX5_readCommand 155 = .ok (.invokevirtual 54, 3) := by decide +kernel
theorem dX5_readCommand_158 : decode cX5_readCommand 158 = .ok (.iastore, 1) := by decide +kernel
theorem dX5_readCommand_159 : decode cX5_readCommand 159 = .ok (.goto 66, 3) := by decide +kernel
theorem dX5_readCommand_162 : decode cX5_readCommand 162 = .ok (.aload_n 0, 1) := by decide +kernel
theorem dX5_readCommand_163 : decode cX5_readCommand 163 = .ok (.getfield 18, 3) := by decide +kernel
theorem dX5_readCommand_166 : decode cX5_readCommand 166 = .ok (.iload_n 1, 1) := by decide +kernel
theorem dX5_readCommand_167 : decode cX5_readCommand 167 = .ok (.aload_n 0, 1) := by decide +kernel
theorem dX5_readCommand_168 : decode cX5_readCommand 168 = .ok (.invokevirtual 57, 3) := by decide +kernel
theorem dX5_readCommand_171 : decode cX5_readCommand 171 = .ok (.iastore, 1) := by decide +kernel
theorem dX5_readCommand_172 : decode cX5_readCommand 172 = .ok (.aload_n 0, 1) := by decide +kernel
theorem dX5_readCommand_173 : decode cX5_readCommand 173 = .ok (.getfield 21, 3) := by decide +kernel
theorem dX5_readCommand_176 : decode cX5_readCommand 176 = .ok (.iload_n 1, 1) := by decide +kernel
theorem dX5_readCommand_177 : decode cX5_readCommand 177 = .ok (.aload_n 0, 1) := by decide +kernel
theorem dX5_readCommand_178 : decode cX5_readCommand 178 = .ok (.invokevirtual 51, 3) := by decide +kernel
theorem dX5_readCommand_181 : decode cX5_readCommand 181 = .ok (.iastore, 1) := by decide +kernel
theorem dX5_readCommand_182 : decode cX5_readCommand 182 = .ok (.aload_n 0, 1) := by decide +kernel
theorem dX5_readCommand_183 : decode cX5_readCommand 183 = .ok (.getfield 24, 3) := by decide +kernel
theorem dX5_readCommand_186 : decode cX5_readCommand 186 = .ok (.iload_n 1, 1) := by decide +kernel
theorem dX5_readCommand_187 : decode cX5_readCommand 187 = .ok (.aload_n 0, 1) := by decide +kernel
theorem dX5_readCommand_188 : decode cX5_readCommand 188 = .ok (.invokevirtual 54, 3) := by decide +kernel
theorem dX5_readCommand_191 : decode cX5_readCommand 191 = .ok (.iastore, 1) := by decide +kernel
theorem dX5_readCommand_192 : decode cX5_readCommand 192 = .ok (.goto 33, 3) := by decide +kernel
theorem dX5_readCommand_195 : decode cX5_readCommand 195 = .ok (.aload_n 0, 1) := by decide +kernel
theorem dX5_readCommand_196 : decode cX5_readCommand 196 = .ok (.getfield 18, 3) := by decide +kernel
theorem dX5_readCommand_199 : decode cX5_readCommand 199 = .ok (.iload_n 1, 1) := by decide +kernel
theorem dX5_readCommand_200 : decode cX5_readCommand 200 = .ok (.aload_n 0, 1) := by decide +kernel
theorem dX5_readCommand_201 : decode cX5_readCommand 201 = .ok (.invokevirtual 57, 3) := by decide +kernel
theorem dX5_readCommand_204 : decode cX5_readCommand 204 = .ok (.iastore, 1) := by decide +kernel
theorem dX5_readCommand_205 : decode cX5_readCommand 205 = .ok (.goto 20, 3) := by decide +kernel
theorem dX5_readCommand_208 : decode cX5_readCommand 208 = .ok (.goto 17, 3) := by decide +kernel
theorem dX5_readCommand_211 : decode cX5_readCommand 211 = .ok (.aload_n 0, 1) := by decide +kernel
theorem dX5_readCommand_212 : decode cX5_readCommand 212 = .ok (.dup, 1) := by decide +kernel
theorem dX5_readCommand_213 : decode cX5_readCommand 213 = .ok (.getfield 34, 3) := by decide +kernel
theorem dX5_readCommand_216 : decode cX5_readCommand 216 = .ok (.iconst 1, 1) := by decide +kernel
theorem dX5_readCommand_217 : decode cX5_readCommand 217 = .ok (.isub, 1) := by decide +kernel
theorem dX5_readCommand_218 : decode cX5_readCommand 218 = .ok (.putfield 34, 3) := by decide +kernel
theorem dX5_readCommand_221 : decode cX5_readCommand 221 = .ok (.aload_n 0, 1) := by decide +kernel
theorem dX5_readCommand_222 : decode cX5_readCommand 222 = .ok (.invokevirtual 60, 3) := by decide +kernel
theorem dX5_readCommand_225 : decode cX5_readCommand 225 = .ok (.aload_n 0, 1) := by decide +kernel
theorem dX5_readCommand_226 : decode cX5_readCommand 226 = .ok (.invokevirtual 63, 3) := by decide +kernel
theorem dX5_readCommand_229 : decode cX5_readCommand 229 = .ok (.aload_n 0, 1) := by decide +kernel
theorem dX5_readCommand_230 : decode cX5_readCommand 230 = .ok (.getfield 15, 3) := by decide +kernel
theorem dX5_readCommand_233 : decode cX5_readCommand 233 = .ok (.iload_n 1, 1) := by decide +kernel
theorem dX5_readCommand_234 : decode cX5_readCommand 234 = .ok (.iload_n 2, 1) := by decide +kernel
theorem dX5_readCommand_235 : decode cX5_readCommand 235 = .ok (.iastore, 1) := by decide +kernel
theorem dX5_readCommand_236 : decode cX5_readCommand 236 = .ok (.aload_n 0, 1) := by decide +kernel
theorem dX5_readCommand_237 : decode cX5_readCommand 237 = .ok (.iload_n 1, 1) := by decide +kernel
theorem dX5_readCommand_238 : decode cX5_readCommand 238 = .ok (.iconst 1, 1) := by decide +kernel
theorem dX5_readCommand_239 : decode cX5_readCommand 239 = .ok (.iadd, 1) := by decide +kernel
theorem dX5_readCommand_240 : decode cX5_readCommand 240 = .ok (.putfield 27, 3) := by decide +kernel
theorem dX5_readCommand_243 : decode cX5_readCommand 243 = .ok (.return_, 1) := by decide +kernel
theorem dX5_readPlace_0 : decode cX5_readPlace 0 = .ok (.aload_n 0, 1) := by decide +kernel
theorem dX5_readPlace_1 : decode cX5_readPlace 1 = .ok (.invokevirtual 37, 3) := by decide +kernel
theorem dX5_readPlace_4 : decode cX5_readPlace 4 = .ok (.aload_n 0, 1) := by decide +kernel
theorem dX5_readPlace_5 : decode cX5_readPlace 5 = .ok (.invokevirtual 47, 3) := by decide +kernel
theorem dX5_readPlace_8 : decode cX5_readPlace 8 = .ok (.bipush 45, 2) := by decide +kernel
theorem dX5_readPlace_10 : decode cX5_readPlace 10 = .ok (.if_icmp .ne 15, 3) := by decide +kernel
theorem dX5_readPlace_13 : decode cX5_readPlace 13 = .ok (.aload_n 0, 1) := by decide +kernel
theorem dX5_readPlace_14 : decode cX5_readPlace 14 = .ok (.dup, 1) := by decide +kernel
theorem dX5_readPlace_15 : decode cX5_readPlace 15 = .ok (.getfield 34, 3) := by decide +kernel
theorem dX5_readPlace_18 : decode cX5_readPlace 18 = .ok (.iconst 1, 1) := by decide +kernel
theorem dX5_readPlace_19 : decode cX5_readPlace 19 = .ok (.iadd, 1) := by decide +kernel
theorem dX5_readPlace_20 : decode cX5_readPlace 20 = .ok (.putfield 34, 3) := by decide +kernel
theorem dX5_readPlace_23 : decode cX5_readPlace 23 = .ok (.iconst (-1), 1) := by decide +kernel
theorem dX5_readPlace_24 : decode cX5_readPlace 24 = .ok (.ireturn, 1) := by decide +kernel
theorem dX5_readPlace_25 : decode cX5_readPlace 25 = .ok (.aload_n 0, 1) := by decide +kernel
theorem dX5_readPlace_26 : decode cX5_readPlace 26 = .ok (.invokevirtual 57, 3) := by decide +kernel
theorem dX5_readPlace_29 : decode cX5_readPlace 29 = .ok (.ireturn, 1) := by decide +kernel
theorem dX5_readNumber_0 : decode cX5_readNumber 0 = .ok (.aload_n 0, 1) := by decide +kernel
theorem dX5_readNumber_1 : decode cX5_readNumber 1 = .ok (.invokevirtual 51, 3) := by decide +kernel
theorem dX5_readNumber_4 : decode cX5_readNumber 4 = .ok (.istore_n 1, 1) := by decide +kernel
theorem dX5_readNumber_5 : decode cX5_readNumber 5 = .ok (.iconst 1, 1) := by decide +kernel
theorem dX5_readNumber_6 : decode cX5_readNumber 6 = .ok (.istore_n 2, 1) := by decide +kernel
theorem dX5_readNumber_7 : decode cX5_readNumber 7 = .ok (.iload_n 2, 1) := by decide +kernel
theorem dX5_readNumber_8 : decode cX5_readNumber 8 = .ok (.iconst 3, 1) := by decide +kernel
theorem dX5_readNumber_9 : decode cX5_readNumber 9 = .ok (.if_icmp .ge 42, 3) := by decide +kernel
theorem dX5_readNumber_12 : decode cX5_readNumber 12 = .ok (.aload_n 0, 1) := by decide +kernel
theorem dX5_readNumber_13 : decode cX5_readNumber 13 = .ok (.invokevirtual 47, 3) := by decide +kernel
theorem dX5_readNumber_16 : decode cX5_readNumber 16 = .ok (.invokestatic 66, 3) := by decide +kernel
theorem dX5_readNumber_19 : decode cX5_readNumber 19 = .ok (.ifCond .eq 32, 3) := by decide +kernel
theorem dX5_readNumber_22 : decode cX5_readNumber 22 = .ok (.bipush 10, 2) := by decide +kernel
theorem dX5_readNumber_24 : decode cX5_readNumber 24 = .ok (.iload_n 1, 1) := by decide +kernel
theorem dX5_readNumber_25 : decode cX5_readNumber 25 = .ok (.imul, 1) := by decide +kernel
theorem dX5_readNumber_26 : decode cX5_readNumber 26 = .ok (.aload_n 0, 1) := by decide +kernel
theorem dX5_readNumber_27 : decode cX5_readNumber 27 = .ok (.invokevirtual 47, 3) := by decide +kernel
theorem dX5_readNumber_30 : decode cX5_readNumber 30 = .ok (.iadd, 1) := by decide +kernel
theorem dX5_readNumber_31 : decode cX5_readNumber 31 = .ok (.bipush 48, 2) := by decide +kernel
theorem dX5_readNumber_33 : decode cX5_readNumber 33 = .ok (.isub, 1) := by decide +kernel
theorem dX5_readNumber_34 : decode cX5_readNumber 34 = .ok (.istore_n 1, 1) := by decide +kernel
theorem dX5_readNumber_35 : decode cX5_readNumber 35 = .ok (.aload_n 0, 1) := by decide +kernel
theorem dX5_readNumber_36 : decode cX5_readNumber 36 = .ok (.dup, 1) := by decide +kernel
theorem dX5_readNumber_37 : decode cX5_readNumber 37 = .ok (.getfield 34, 3) := by decide +kernel
theorem dX5_readNumber_40 : decode cX5_readNumber 40 = .ok (.iconst 1, 1) := by decide +kernel
theorem dX5_readNumber_41 : decode cX5_readNumber 41 = .ok (.iadd, 1) := by decide +kernel
theorem dX5_readNumber_42 : decode cX5_readNumber 42 = .ok (.putfield 34, 3) := by decide +kernel
theorem dX5_readNumber_45 : decode cX5_readNumber 45 = .ok (.iinc 2 1, 3) := by decide +kernel
theorem dX5_readNumber_48 : decode cX5_readNumber 48 = .ok (.goto (-41), 3) := by decide +kernel
theorem dX5_readNumber_51 : decode cX5_readNumber 51 = .ok (.aload_n 0, 1) := by decide +kernel
theorem dX5_readNumber_52 : decode cX5_readNumber 52 = .ok (.invokevirtual 47, 3) := by decide +kernel
theorem dX5_readNumber_55 : decode cX5_readNumber 55 = .ok (.invokestatic 66, 3) := by decide +kernel
theorem dX5_readNumber_58 : decode cX5_readNumber 58 = .ok (.ifCond .eq 7, 3) := by decide +kernel
theorem dX5_readNumber_61 : decode cX5_readNumber 61 = .ok (.aload_n 0, 1) := by decide +kernel
theorem dX5_readNumber_62 : decode cX5_readNumber 62 = .ok (.invokevirtual 60, 3) := by decide +kernel
theorem dX5_readNumber_65 : decode cX5_readNumber 65 = .ok (.iload_n 1, 1) := by decide +kernel
theorem dX5_readNumber_66 : decode cX5_readNumber 66 = .ok (.ireturn, 1) := by decide +kernel
theorem dX5_readDigit_0 : decode cX5_readDigit 0 = .ok (.aload_n 0, 1) := by decide +kernel
theorem dX5_readDigit_1 : decode cX5_readDigit 1 = .ok (.invokevirtual 37, 3) := by decide +kernel
theorem dX5_readDigit_4 : decode cX5_readDigit 4 = .ok (.aload_n 0, 1) := by decide +kernel
theorem dX5_readDigit_5 : decode cX5_readDigit 5 = .ok (.invokevirtual 47, 3) := by decide +kernel
theorem dX5_readDigit_8 : decode cX5_readDigit 8 = .ok (.invokestatic 66, 3) := by decide +kernel
theorem dX5_readDigit_11 : decode cX5_readDigit 11 = .ok (.ifCond .ne 9, 3) := by decide +kernel
theorem dX5_readDigit_14 : decode cX5_readDigit 14 = .ok (.aload_n 0, 1) := by decide +kernel
theorem dX5_readDigit_15 : decode cX5_readDigit 15 = .ok (.invokevirtual 60, 3) := by decide +kernel
theorem dX5_readDigit_18 : decode cX5_readDigit 18 = .ok (.iconst 0, 1) := by decide +kernel
theorem dX5_readDigit_19 : decode cX5_readDigit 19 = .ok (.ireturn, 1) := by decide +kernel
theorem dX5_readDigit_20 : decode cX5_readDigit 20 = .ok (.aload_n 0, 1) := by decide +kernel
theorem dX5_readDigit_21 : decode cX5_readDigit 21 = .ok (.invokevirtual 47, 3) := by decide +kernel
theorem dX5_readDigit_24 : decode cX5_readDigit 24 = .ok (.bipush 48, 2) := by decide +kernel
theorem dX5_readDigit_26 : decode cX5_readDigit 26 = .ok (.isub, 1) := by decide +kernel
theorem dX5_readDigit_27 : decode cX5_readDigit 27 = .ok (.istore_n 1, 1) := by decide +kernel
theorem dX5_readDigit_28 : decode cX5_readDigit 28 = .ok (.aload_n 0, 1) := by decide +kernel
theorem dX5_readDigit_29 : decode cX5_readDigit 29 = .ok (.dup, 1) := by decide +kernel
theorem dX5_readDigit_30 : decode cX5_readDigit 30 = .ok (.getfield 34, 3) := by decide +kernel
theorem dX5_readDigit_33 : decode cX5_readDigit 33 = .ok (.iconst 1, 1) := by decide +kernel
theorem dX5_readDigit_34 : decode cX5_readDigit 34 = .ok (.iadd, 1) := by decide +kernel
theorem dX5_readDigit_35 : decode cX5_readDigit 35 = .ok (.putfield 34, 3) := by decide +kernel
theorem dX5_readDigit_38 : decode cX5_readDigit 38 = .ok (.iload_n 1, 1) := by decide +kernel
theorem dX5_readDigit_39 : decode cX5_readDigit 39 = .ok (.ireturn, 1) := by decide +kernel
theorem dX5_readEnd_0 : decode cX5_readEnd 0 = .ok (.aload_n 0, 1) := by decide +kernel
theorem dX5_readEnd_1 : decode cX5_readEnd 1 = .ok (.invokevirtual 37, 3) := by decide +kernel
theorem dX5_readEnd_4 : decode cX5_readEnd 4 = .ok (.aload_n 0, 1) := by decide +kernel
theorem dX5_readEnd_5 : decode cX5_readEnd 5 = .ok (.invokevirtual 47, 3) := by decide +kernel
theorem dX5_readEnd_8 : decode cX5_readEnd 8 = .ok (.bipush 59, 2) := by decide +kernel
theorem dX5_readEnd_10 : decode cX5_readEnd 10 = .ok (.if_icmp .ne 16, 3) := by decide +kernel
theorem dX5_readEnd_13 : decode cX5_readEnd 13 = .ok (.aload_n 0, 1) := by decide +kernel
theorem dX5_readEnd_14 : decode cX5_readEnd 14 = .ok (.dup, 1) := by decide +kernel
theorem dX5_readEnd_15 : decode cX5_readEnd 15 = .ok (.getfield 34, 3) := by decide +kernel
theorem dX5_readEnd_18 : decode cX5_readEnd 18 = .ok (.iconst 1, 1) := by decide +kernel
theorem dX5_readEnd_19 : decode cX5_readEnd 19 = .ok (.iadd, 1) := by decide +kernel
theorem dX5_readEnd_20 : decode cX5_readEnd 20 = .ok (.putfield 34, 3) := by decide +kernel
theorem dX5_readEnd_23 : decode cX5_readEnd 23 = .ok (.goto 7, 3) := by decide +kernel
theorem dX5_readEnd_26 : decode cX5_readEnd 26 = .ok (.aload_n 0, 1) := by decide +kernel
theorem dX5_readEnd_27 : decode cX5_readEnd 27 = .ok (.invokevirtual 60, 3) := by decide +kernel
theorem dX5_readEnd_30 : decode cX5_readEnd 30 = .ok (.return_, 1) := by decide +kernel
theorem dX5_refuse_0 : decode cX5_refuse 0 = .ok (.aload_n 0, 1) := by decide +kernel
theorem dX5_refuse_1 : decode cX5_refuse 1 = .ok (.getfield 31, 3) := by decide +kernel
theorem dX5_refuse_4 : decode cX5_refuse 4 = .ok (.iconst (-1), 1) := by decide +kernel
theorem dX5_refuse_5 : decode cX5_refuse 5 = .ok (.if_icmp .ne 11, 3) := by decide +kernel
theorem dX5_refuse_8 : decode cX5_refuse 8 = .ok (.aload_n 0, 1) := by decide +kernel
theorem dX5_refuse_9 : decode cX5_refuse 9 = .ok (.aload_n 0, 1) := by decide +kernel
theorem dX5_refuse_10 : decode cX5_refuse 10 = .ok (.getfield 34, 3) := by decide +kernel
theorem dX5_refuse_13 : decode cX5_refuse 13 = .ok (.putfield 31, 3) := by decide +kernel
theorem dX5_refuse_16 : decode cX5_refuse 16 = .ok (.return_, 1) := by decide +kernel
theorem dX5_skipBlanks_0 : decode cX5_skipBlanks 0 = .ok (.aload_n 0, 1) := by decide +kernel
theorem dX5_skipBlanks_1 : decode cX5_skipBlanks 1 = .ok (.getfield 34, 3) := by decide +kernel
theorem dX5_skipBlanks_4 : decode cX5_skipBlanks 4 = .ok (.istore_n 1, 1) := by decide +kernel
theorem dX5_skipBlanks_5 : decode cX5_skipBlanks 5 = .ok (.iload_n 1, 1) := by decide +kernel
theorem dX5_skipBlanks_6 : decode cX5_skipBlanks 6 = .ok (.aload_n 0, 1) := by decide +kernel
theorem dX5_skipBlanks_7 : decode cX5_skipBlanks 7 = .ok (.getfield 40, 3) := by decide +kernel
theorem dX5_skipBlanks_10 : decode cX5_skipBlanks 10 = .ok (.if_icmp .ge 30, 3) := by decide +kernel
theorem dX5_skipBlanks_13 : decode cX5_skipBlanks 13 = .ok (.aload_n 0, 1) := by decide +kernel
theorem dX5_skipBlanks_14 : decode cX5_skipBlanks 14 = .ok (.getfield 9, 3) := by decide +kernel
theorem dX5_skipBlanks_17 : decode cX5_skipBlanks 17 = .ok (.iload_n 1, 1) := by decide +kernel
theorem dX5_skipBlanks_18 : decode cX5_skipBlanks 18 = .ok (.iaload, 1) := by decide +kernel
theorem dX5_skipBlanks_19 : decode cX5_skipBlanks 19 = .ok (.bipush 32, 2) := by decide +kernel
theorem dX5_skipBlanks_21 : decode cX5_skipBlanks 21 = .ok (.if_icmp .ne 19, 3) := by decide +kernel
theorem dX5_skipBlanks_24 : decode cX5_skipBlanks 24 = .ok (.aload_n 0, 1) := by decide +kernel
theorem dX5_skipBlanks_25 : decode cX5_skipBlanks 25 = .ok (.dup, 1) := by decide +kernel
theorem dX5_skipBlanks_26 : decode cX5_skipBlanks 26 = .ok (.getfield 34, 3) := by decide +kernel
theorem dX5_skipBlanks_29 : decode cX5_skipBlanks 29 = .ok (.iconst 1, 1) := by decide +kernel
theorem dX5_skipBlanks_30 : decode cX5_skipBlanks 30 = .ok (.iadd, 1) := by decide +kernel
theorem dX5_skipBlanks_31 : decode cX5_skipBlanks 31 = .ok (.putfield 34, 3) := by decide +kernel
theorem dX5_skipBlanks_34 : decode cX5_skipBlanks 34 = .ok (.iinc 1 1, 3) := by decide +kernel
theorem dX5_skipBlanks_37 : decode cX5_skipBlanks 37 = .ok (.goto (-32), 3) := by decide +kernel
theorem dX5_skipBlanks_40 : decode cX5_skipBlanks 40 = .ok (.return_, 1) := by decide +kernel
theorem dX5_letter_0 : decode cX5_letter 0 = .ok (.aload_n 0, 1) := by decide +kernel
theorem dX5_letter_1 : decode cX5_letter 1 = .ok (.getfield 34, 3) := by decide +kernel
theorem dX5_letter_4 : decode cX5_letter 4 = .ok (.aload_n 0, 1) := by decide +kernel
theorem dX5_letter_5 : decode cX5_letter 5 = .ok (.getfield 40, 3) := by decide +kernel
theorem dX5_letter_8 : decode cX5_letter 8 = .ok (.if_icmp .ge 15, 3) := by decide +kernel
theorem dX5_letter_11 : decode cX5_letter 11 = .ok (.aload_n 0, 1) := by decide +kernel
theorem dX5_letter_12 : decode cX5_letter 12 = .ok (.getfield 9, 3) := by decide +kernel
theorem dX5_letter_15 : decode cX5_letter 15 = .ok (.aload_n 0, 1) := by decide +kernel
theorem dX5_letter_16 : decode cX5_letter 16 = .ok (.getfield 34, 3) := by decide +kernel
theorem dX5_letter_19 : decode cX5_letter 19 = .ok (.iaload, 1) := by decide +kernel
theorem dX5_letter_20 : decode cX5_letter 20 = .ok (.goto 4, 3) := by decide +kernel
theorem dX5_letter_23 : decode cX5_letter 23 = .ok (.iconst (-1), 1) := by decide +kernel
theorem dX5_letter_24 : decode cX5_letter 24 = .ok (.ireturn, 1) := by decide +kernel
theorem dX5_isDigit_0 : decode cX5_isDigit 0 = .ok (.iload_n 0, 1) := by decide +kernel
theorem dX5_isDigit_1 : decode cX5_isDigit 1 = .ok (.bipush 48, 2) := by decide +kernel
theorem dX5_isDigit_3 : decode cX5_isDigit 3 = .ok (.if_icmp .lt 13, 3) := by decide +kernel
theorem dX5_isDigit_6 : decode cX5_isDigit 6 = .ok (.iload_n 0, 1) := by decide +kernel
theorem dX5_isDigit_7 : decode cX5_isDigit 7 = .ok (.bipush 57, 2) := by decide +kernel
theorem dX5_isDigit_9 : decode cX5_isDigit 9 = .ok (.if_icmp .gt 7, 3) := by decide +kernel
theorem dX5_isDigit_12 : decode cX5_isDigit 12 = .ok (.iconst 1, 1) := by decide +kernel
theorem dX5_isDigit_13 : decode cX5_isDigit 13 = .ok (.goto 4, 3) := by decide +kernel
theorem dX5_isDigit_16 : decode cX5_isDigit 16 = .ok (.iconst 0, 1) := by decide +kernel
theorem dX5_isDigit_17 : decode cX5_isDigit 17 = .ok (.ireturn, 1) := by decide +kernel
