set_option maxRecDepth 20000 in
theorem ggX6_init_X1_init : GoodIn wsX6_init wsX1_init := goodIn_r _ [31, 32, 2, 3, 33, 34, 35, 36, 37, 38, 39, 40, 41, 42, 43, 84, 85, 86, 87, 88, 89, 90, 91, 92, 93, 94, 95, 96, 97, 98] (by decide +kernel) (by decide +kernel)
set_option maxRecDepth 20000 in
theorem gX6_init_X1_init_n11 : GoodIn wsX6_init (wsX1_init) := ggX6_init_X1_init
set_option maxRecDepth 20000 in
theorem ggX6_init_X1_empty : GoodIn wsX6_init wsX1_empty := goodIn_r _ [47, 48, 49, 50, 51, 52, 34, 40, 41, 53, 54, 55, 56, 84, 85, 86, 87, 88, 89, 90, 91, 92, 93, 94, 95, 96, 97, 98] (by decide +kernel) (by decide +kernel)
set_option maxRecDepth 20000 in
theorem gX6_init_X1_empty : GoodIn wsX6_init (wsV RX6 16 RX1 yX1_empty wsX1_empty) := goodIn_app (goodIn_of _ (by decide +kernel)) ggX6_init_X1_empty
set_option maxRecDepth 20000 in
theorem ggX6_init_X0_init : GoodIn wsX6_init wsX0_init := goodIn_r _ [58, 59, 2, 3, 60, 61, 33, 62, 107, 108, 109, 110, 111, 112] (by decide +kernel) (by decide +kernel)
set_option maxRecDepth 20000 in
theorem gX6_init_X0_init_n26 : GoodIn wsX6_init (wsX0_init) := ggX6_init_X0_init
set_option maxRecDepth 20000 in
theorem ggX6_init_X3_init : GoodIn wsX6_init wsX3_init := goodIn_r _ [64, 65, 2, 3, 33, 66, 67, 113, 114, 115] (by decide +kernel) (by decide +kernel)
set_option maxRecDepth 20000 in
theorem gX6_init_X3_init_n33 : GoodIn wsX6_init (wsX3_init) := ggX6_init_X3_init
set_option maxRecDepth 20000 in
theorem ggX6_init_X4_init : GoodIn wsX6_init wsX4_init := goodIn_r _ [69, 70, 2, 3, 33, 71, 116] (by decide +kernel) (by decide +kernel)
set_option maxRecDepth 20000 in
theorem gX6_init_X4_init_n40 : GoodIn wsX6_init (wsX4_init) := ggX6_init_X4_init
set_option maxRecDepth 20000 in
theorem ggX6_init_X2_init : GoodIn wsX6_init wsX2_init := goodIn_r _ [73, 74, 2, 3, 33, 75, 117] (by decide +kernel) (by decide +kernel)
set_option maxRecDepth 20000 in
theorem gX6_init_X2_init_n47 : GoodIn wsX6_init (wsX2_init) := ggX6_init_X2_init
set_option maxRecDepth 20000 in
theorem ggX6_init_X5_init : GoodIn wsX6_init wsX5_init := goodIn_r _ [77, 78, 2, 3, 33, 79, 80, 81, 82, 83, 118, 119, 120, 121, 122, 123, 124, 125, 126] (by decide +kernel) (by decide +kernel)
set_option maxRecDepth 20000 in
theorem gX6_init_X5_init_n54 : GoodIn wsX6_init (wsX5_init) := ggX6_init_X5_init
set_option maxRecDepth 20000 in
theorem ggX6_reset_X1_empty : GoodIn wsX6_reset wsX1_empty := goodIn_r _ [7, 8, 9, 10, 11, 12, 13, 14, 15, 16, 17, 18, 19, 28, 29, 30, 31, 32, 33, 34, 35, 36, 37, 38, 39, 40, 41, 42] (by decide +kernel) (by decide +kernel)
set_option maxRecDepth 20000 in
theorem gX6_reset_X1_empty : GoodIn wsX6_reset (wsV RX6 16 RX1 yX1_empty wsX1_empty) := goodIn_app (goodIn_of _ (by decide +kernel)) ggX6_reset_X1_empty
set_option maxRecDepth 20000 in
theorem ggX6_alloc_X1_roomFor : GoodIn wsX6_alloc wsX1_roomFor := goodIn_r _ [8, 9, 10, 44, 45, 46, 47, 48, 49, 50, 51, 52, 53, 54, 55, 56, 57, 58] (by decide +kernel) (by decide +kernel)
set_option maxRecDepth 20000 in
theorem gX6_alloc_X1_roomFor : GoodIn wsX6_alloc (wsV RX6 64 RX1 yX1_roomFor wsX1_roomFor) := goodIn_app (goodIn_of _ (by decide +kernel)) ggX6_alloc_X1_roomFor
set_option maxRecDepth 20000 in
theorem ggX6_alloc_X1_place : GoodIn wsX6_alloc wsX1_place := goodIn_r _ [14, 15, 16, 17, 18, 19, 20, 21, 22, 23, 24, 25, 26, 27, 28, 29, 30, 7, 31, 10, 32, 33, 34, 35, 44, 45, 46, 47, 48, 49, 50, 51, 52, 53, 54, 55, 56, 57, 58] (by decide +kernel) (by decide +kernel)
set_option maxRecDepth 20000 in
theorem gX6_alloc_X1_place : GoodIn wsX6_alloc (wsV RX6 69 RX1 yX1_place wsX1_place) := goodIn_app (goodIn_of _ (by decide +kernel)) ggX6_alloc_X1_place
set_option maxRecDepth 20000 in
theorem ggX6_object_X1_objectAt : GoodIn wsX6_object wsX1_objectAt := goodIn_r _ [9, 10, 11, 12, 13, 8, 14, 15, 89, 90, 91, 92, 93, 94, 95, 96, 97, 98, 99, 100, 101, 102, 103] (by decide +kernel) (by decide +kernel)
set_option maxRecDepth 20000 in
theorem gX6_object_X1_objectAt : GoodIn wsX6_object (wsV RX6 73 RX1 yX1_objectAt wsX1_objectAt) := goodIn_app (goodIn_of _ (by decide +kernel)) ggX6_object_X1_objectAt
set_option maxRecDepth 20000 in
theorem ggX6_object_X4_tally : GoodIn wsX6_object wsX4_tally := goodIn_r _ [20, 21, 22, 23, 24, 25, 26, 27, 28, 29, 30, 31, 32, 33, 19, 34, 35, 6, 7, 8, 9, 10, 11, 12, 13, 14, 15, 36, 37, 38, 39, 104, 89, 90, 91, 92, 93, 94, 95, 96, 97, 98, 99, 100, 101, 102, 103] (by decide +kernel) (by decide +kernel)
set_option maxRecDepth 20000 in
theorem gX6_object_X4_tally : GoodIn wsX6_object (wsV RX6 76 RX4 yX4_tally wsX4_tally) := goodIn_app (goodIn_of _ (by decide +kernel)) ggX6_object_X4_tally
set_option maxRecDepth 20000 in
theorem ggX6_object_X3_trace : GoodIn wsX6_object wsX3_trace := goodIn_r _ [44, 45, 46, 47, 48, 49, 50, 51, 52, 28, 29, 30, 53, 6, 7, 8, 9, 10, 11, 12, 13, 14, 15, 54, 55, 56, 43, 57, 58, 59, 60, 61, 62, 63, 37, 38, 39, 105, 106, 107, 89, 90, 91, 92, 93, 94, 95, 96, 97, 98, 99, 100, 101, 102, 103] (by decide +kernel) (by decide +kernel)
set_option maxRecDepth 20000 in
theorem gX6_object_X3_trace : GoodIn wsX6_object (wsV RX6 80 RX3 yX3_trace wsX3_trace) := goodIn_app (goodIn_of _ (by decide +kernel)) ggX6_object_X3_trace
set_option maxRecDepth 20000 in
theorem ggX6_object_X6_property : GoodIn wsX6_object wsX6_property := goodIn_r _ [68, 1, 69, 70, 71, 72, 3, 73, 4, 74, 75, 76, 77, 8, 78, 79, 80, 81, 82, 83, 84, 85, 86, 87, 88, 89, 90, 91, 92, 93, 94, 95, 96, 97, 98, 99, 100, 101, 102, 103, 104, 105, 106, 107] (by decide +kernel) (by decide +kernel)
set_option maxRecDepth 20000 in
theorem gX6_object_X6_property : GoodIn wsX6_object (wsV RX6 84 RX6 yX6_property wsX6_property) := goodIn_app (goodIn_of _ (by decide +kernel)) ggX6_object_X6_property
set_option maxRecDepth 20000 in
theorem ggX6_next_X1_objectFrom : GoodIn wsX6_next wsX1_objectFrom := goodIn_r _ [7, 8, 9, 10, 11, 6, 12, 13, 14, 15, 16, 17, 36, 37, 38, 39, 40, 41, 42, 43, 44, 45, 46, 47, 48, 49, 50] (by decide +kernel) (by decide +kernel)
set_option maxRecDepth 20000 in
theorem gX6_next_X1_objectFrom : GoodIn wsX6_next (wsV RX6 88 RX1 yX1_objectFrom wsX1_objectFrom) := goodIn_app (goodIn_of _ (by decide +kernel)) ggX6_next_X1_objectFrom
set_option maxRecDepth 20000 in
theorem ggX6_next_X1_objectAt : GoodIn wsX6_next wsX1_objectAt := goodIn_r _ [21, 13, 14, 15, 16, 6, 17, 8, 36, 37, 38, 39, 40, 41, 42, 43, 44, 45, 46, 47, 48, 49, 50] (by decide +kernel) (by decide +kernel)
set_option maxRecDepth 20000 in
theorem gX6_next_X1_objectAt : GoodIn wsX6_next (wsV RX6 73 RX1 yX1_objectAt wsX1_objectAt) := goodIn_app (goodIn_of _ (by decide +kernel)) ggX6_next_X1_objectAt
set_option maxRecDepth 20000 in
theorem ggX6_next_X1_sizeOf : GoodIn wsX6_next wsX1_sizeOf := goodIn_r _ [25, 26, 27, 36, 37, 38, 39, 40, 41, 42, 43, 44, 45, 46, 47, 48, 49, 50] (by decide +kernel) (by decide +kernel)
set_option maxRecDepth 20000 in
theorem gX6_next_X1_sizeOf : GoodIn wsX6_next (wsV RX6 91 RX1 yX1_sizeOf wsX1_sizeOf) := goodIn_app (goodIn_of _ (by decide +kernel)) ggX6_next_X1_sizeOf
set_option maxRecDepth 20000 in
theorem ggX6_setField_X6_fieldWord : GoodIn wsX6_setField wsX6_fieldWord := goodIn_r _ [8, 1, 9, 10, 11, 12, 13, 14, 15, 16, 17, 18, 19, 20, 29, 30, 31, 32, 33, 34, 35, 36, 37, 38, 39, 40, 41, 42, 43, 44, 45, 46, 47, 48, 49, 50, 51] (by decide +kernel) (by decide +kernel)
set_option maxRecDepth 20000 in
theorem gX6_setField_X6_fieldWord : GoodIn wsX6_setField (wsV RX6 94 RX6 yX6_fieldWord wsX6_fieldWord) := goodIn_app (goodIn_of _ (by decide +kernel)) ggX6_setField_X6_fieldWord
set_option maxRecDepth 20000 in
theorem ggX6_setField_X1_isReference : GoodIn wsX6_setField wsX1_isReference := goodIn_r _ [24, 25, 11, 12, 13, 14, 15, 16, 17, 18, 19, 20, 37, 38, 39, 40, 41, 42, 43, 44, 45, 46, 47, 48, 49, 50, 51] (by decide +kernel) (by decide +kernel)
set_option maxRecDepth 20000 in
theorem gX6_setField_X1_isReference : GoodIn wsX6_setField (wsV RX6 97 RX1 yX1_isReference wsX1_isReference) := goodIn_app (goodIn_of _ (by decide +kernel)) ggX6_setField_X1_isReference
set_option maxRecDepth 20000 in
theorem ggX6_setField_X6_exchange : GoodIn wsX6_setField wsX6_exchange := goodIn_r _ [28] (by decide +kernel) (by decide +kernel)
set_option maxRecDepth 20000 in
theorem gX6_setField_X6_exchange : GoodIn wsX6_setField (va_wsS RX6 105 yX6_exchange wsX6_exchange) := goodIn_app (goodIn_of _ (by decide +kernel)) ggX6_setField_X6_exchange
set_option maxRecDepth 20000 in
theorem ggX6_field_X6_fieldWord : GoodIn wsX6_field wsX6_fieldWord := goodIn_r _ [8, 2, 9, 10, 11, 12, 13, 14, 15, 16, 17, 18, 19, 20, 21, 22, 23, 24, 25, 26, 27, 28, 29, 30, 31, 32, 33, 34, 35, 36, 37, 38, 39, 40, 41, 42, 43] (by decide +kernel) (by decide +kernel)
set_option maxRecDepth 20000 in
theorem gX6_field_X6_fieldWord : GoodIn wsX6_field (wsV RX6 94 RX6 yX6_fieldWord wsX6_fieldWord) := goodIn_app (goodIn_of _ (by decide +kernel)) ggX6_field_X6_fieldWord
set_option maxRecDepth 20000 in
theorem ggX6_setData_X6_dataWord : GoodIn wsX6_setData wsX6_dataWord := goodIn_r _ [10, 4, 11, 12, 13, 14, 15, 16, 17, 18, 19, 20, 21, 22, 23, 27, 28, 29, 30, 31, 32, 33, 34, 35, 36, 37, 38, 39, 40, 41, 42, 43, 44, 45, 46, 47, 48, 49] (by decide +kernel) (by decide +kernel)
set_option maxRecDepth 20000 in
theorem gX6_setData_X6_dataWord : GoodIn wsX6_setData (wsV RX6 109 RX6 yX6_dataWord wsX6_dataWord) := goodIn_app (goodIn_of _ (by decide +kernel)) ggX6_setData_X6_dataWord
set_option maxRecDepth 20000 in
theorem ggX6_setData_X6_exchange : GoodIn wsX6_setData wsX6_exchange := goodIn_r _ [26] (by decide +kernel) (by decide +kernel)
set_option maxRecDepth 20000 in
theorem gX6_setData_X6_exchange : GoodIn wsX6_setData (va_wsS RX6 105 yX6_exchange wsX6_exchange) := goodIn_app (goodIn_of _ (by decide +kernel)) ggX6_setData_X6_exchange
set_option maxRecDepth 20000 in
theorem ggX6_data_X6_dataWord : GoodIn wsX6_data wsX6_dataWord := goodIn_r _ [8, 2, 9, 10, 11, 12, 13, 14, 15, 16, 17, 18, 19, 20, 21, 22, 23, 24, 25, 26, 27, 28, 29, 30, 31, 32, 33, 34, 35, 36, 37, 38, 39, 40, 41, 42, 43, 44] (by decide +kernel) (by decide +kernel)
set_option maxRecDepth 20000 in
theorem gX6_data_X6_dataWord : GoodIn wsX6_data (wsV RX6 109 RX6 yX6_dataWord wsX6_dataWord) := goodIn_app (goodIn_of _ (by decide +kernel)) ggX6_data_X6_dataWord
set_option maxRecDepth 20000 in
theorem ggX6_pin_X1_objectAt : GoodIn wsX6_pin wsX1_objectAt := goodIn_r _ [9, 10, 11, 12, 13, 8, 14, 15, 37, 38, 39, 40, 41, 42, 43, 44, 45, 46, 47, 48, 49, 50, 51] (by decide +kernel) (by decide +kernel)
set_option maxRecDepth 20000 in
theorem gX6_pin_X1_objectAt : GoodIn wsX6_pin (wsV RX6 73 RX1 yX1_objectAt wsX1_objectAt) := goodIn_app (goodIn_of _ (by decide +kernel)) ggX6_pin_X1_objectAt
set_option maxRecDepth 20000 in
theorem ggX6_pin_X1_pinnedCount : GoodIn wsX6_pin wsX1_pinnedCount := goodIn_r _ [19, 15, 20, 21, 22, 8, 23, 24, 25, 26, 27, 28, 10, 11, 12, 13, 14, 37, 38, 39, 40, 41, 42, 43, 44, 45, 46, 47, 48, 49, 50, 51] (by decide +kernel) (by decide +kernel)
set_option maxRecDepth 20000 in
theorem gX6_pin_X1_pinnedCount : GoodIn wsX6_pin (wsV RX6 118 RX1 yX1_pinnedCount wsX1_pinnedCount) := goodIn_app (goodIn_of _ (by decide +kernel)) ggX6_pin_X1_pinnedCount
set_option maxRecDepth 20000 in
theorem ggX6_setRoot_X1_isReference : GoodIn wsX6_setRoot wsX1_isReference := goodIn_r _ [8, 9, 10, 11, 7, 12, 13, 14, 15, 16, 17, 18, 31, 32, 33, 34, 35, 36, 37, 38, 39, 40, 41, 42, 43, 44, 45] (by decide +kernel) (by decide +kernel)
set_option maxRecDepth 20000 in
theorem gX6_setRoot_X1_isReference : GoodIn wsX6_setRoot (wsV RX6 97 RX1 yX1_isReference wsX1_isReference) := goodIn_app (goodIn_of _ (by decide +kernel)) ggX6_setRoot_X1_isReference
set_option maxRecDepth 20000 in
theorem ggX6_setRoot_X6_exchange : GoodIn wsX6_setRoot wsX6_exchange := goodIn_r _ [22] (by decide +kernel) (by decide +kernel)
set_option maxRecDepth 20000 in
theorem gX6_setRoot_X6_exchange : GoodIn wsX6_setRoot (va_wsS RX6 105 yX6_exchange wsX6_exchange) := goodIn_app (goodIn_of _ (by decide +kernel)) ggX6_setRoot_X6_exchange
set_option maxRecDepth 20000 in
theorem ggX6_setWeak_X1_isReference : GoodIn wsX6_setWeak wsX1_isReference := goodIn_r _ [8, 9, 10, 11, 7, 12, 13, 14, 15, 16, 17, 18, 31, 32, 33, 34, 35, 36, 37, 38, 39, 40, 41, 42, 43, 44, 45] (by decide +kernel) (by decide +kernel)
set_option maxRecDepth 20000 in
theorem gX6_setWeak_X1_isReference : GoodIn wsX6_setWeak (wsV RX6 97 RX1 yX1_isReference wsX1_isReference) := goodIn_app (goodIn_of _ (by decide +kernel)) ggX6_setWeak_X1_isReference
set_option maxRecDepth 20000 in
theorem ggX6_setWeak_X6_exchange : GoodIn wsX6_setWeak wsX6_exchange := goodIn_r _ [22] (by decide +kernel) (by decide +kernel)
set_option maxRecDepth 20000 in
theorem gX6_setWeak_X6_exchange : GoodIn wsX6_setWeak (va_wsS RX6 105 yX6_exchange wsX6_exchange) := goodIn_app (goodIn_of _ (by decide +kernel)) ggX6_setWeak_X6_exchange
set_option maxRecDepth 20000 in
theorem ggX6_collect_X1_usedWords : GoodIn wsX6_collect wsX1_usedWords := goodIn_r _ [9, 10, 11, 125, 126, 127, 128, 129, 130, 131, 132, 133, 134, 135, 136, 137, 138, 139] (by decide +kernel) (by decide +kernel)
set_option maxRecDepth 20000 in
theorem gX6_collect_X1_usedWords : GoodIn wsX6_collect (wsV RX6 128 RX1 yX1_usedWords wsX1_usedWords) := goodIn_app (goodIn_of _ (by decide +kernel)) ggX6_collect_X1_usedWords
set_option maxRecDepth 20000 in
theorem ggX6_collect_X0_mark : GoodIn wsX6_collect wsX0_mark := goodIn_r _ [16, 17, 18, 19, 20, 21, 22, 23, 15, 24, 25, 26, 27, 28, 29, 30, 31, 8, 32, 11, 33, 34, 35, 36, 10, 37, 38, 39, 40, 41, 42, 43, 44, 45, 46, 47, 48, 49, 50, 51, 52, 53, 54, 55, 56, 57, 58, 59, 60, 125, 126, 127, 128, 129, 130, 131, 132, 133, 134, 135, 136, 137, 138, 139, 140, 141, 142, 143, 144, 145] (by decide +kernel) (by decide +kernel)
set_option maxRecDepth 20000 in
theorem gX6_collect_X0_mark : GoodIn wsX6_collect (wsV RX6 131 RX0 yX0_mark wsX0_mark) := goodIn_app (goodIn_of _ (by decide +kernel)) ggX6_collect_X0_mark
set_option maxRecDepth 20000 in
theorem ggX6_collect_X0_plan : GoodIn wsX6_collect wsX0_plan := goodIn_r _ [64, 65, 66, 28, 27, 19, 25, 67, 68, 69, 70, 48, 49, 50, 8, 51, 52, 53, 54, 55, 56, 11, 33, 34, 35, 36, 10, 71, 72, 73, 15, 74, 75, 76, 77, 78, 79, 80, 125, 126, 127, 128, 129, 130, 131, 132, 133, 134, 135, 136, 137, 138, 139, 140, 141, 142, 143, 144, 145] (by decide +kernel) (by decide +kernel)
set_option maxRecDepth 20000 in
theorem gX6_collect_X0_plan : GoodIn wsX6_collect (wsV RX6 134 RX0 yX0_plan wsX0_plan) := goodIn_app (goodIn_of _ (by decide +kernel)) ggX6_collect_X0_plan
set_option maxRecDepth 20000 in
theorem ggX6_collect_X0_redirect : GoodIn wsX6_collect wsX0_redirect := goodIn_r _ [84, 17, 85, 19, 25, 47, 46, 86, 87, 88, 15, 89, 65, 90, 34, 35, 8, 36, 10, 125, 126, 127, 128, 129, 130, 131, 132, 133, 134, 135, 136, 137, 138, 139, 140, 141, 142, 143, 144, 145] (by decide +kernel) (by decide +kernel)
set_option maxRecDepth 20000 in
theorem gX6_collect_X0_redirect : GoodIn wsX6_collect (wsV RX6 137 RX0 yX0_redirect wsX0_redirect) := goodIn_app (goodIn_of _ (by decide +kernel)) ggX6_collect_X0_redirect
set_option maxRecDepth 20000 in
theorem ggX6_collect_X0_slide : GoodIn wsX6_collect wsX0_slide := goodIn_r _ [94, 95, 19, 25, 65, 67, 68, 69, 70, 90, 34, 35, 8, 36, 10, 96, 97, 98, 99, 79, 80, 52, 100, 101, 102, 103, 104, 105, 106, 76, 77, 78, 107, 108, 109, 110, 11, 111, 112, 113, 114, 115, 116, 125, 126, 127, 128, 129, 130, 131, 132, 133, 134, 135, 136, 137, 138, 139, 140, 141, 142, 143, 144, 145] (by decide +kernel) (by decide +kernel)
set_option maxRecDepth 20000 in
theorem gX6_collect_X0_slide : GoodIn wsX6_collect (wsV RX6 140 RX0 yX0_slide wsX0_slide) := goodIn_app (goodIn_of _ (by decide +kernel)) ggX6_collect_X0_slide
set_option maxRecDepth 20000 in
theorem ggX6_moved_X1_isAddress : GoodIn wsX6_moved wsX1_isAddress := goodIn_r _ [10, 11, 20, 21, 22, 23, 24, 25, 26, 27, 28, 29, 30, 31, 32, 33, 34] (by decide +kernel) (by decide +kernel)
set_option maxRecDepth 20000 in
theorem gX6_moved_X1_isAddress : GoodIn wsX6_moved (wsV RX6 149 RX1 yX1_isAddress wsX1_isAddress) := goodIn_app (goodIn_of _ (by decide +kernel)) ggX6_moved_X1_isAddress
set_option maxRecDepth 20000 in
theorem ggX6_garbage_X3_trace : GoodIn wsX6_garbage wsX3_trace := goodIn_r _ [7, 8, 9, 10, 11, 12, 13, 14, 15, 16, 17, 18, 19, 20, 21, 22, 23, 24, 25, 26, 27, 28, 29, 30, 31, 32, 6, 33, 34, 35, 36, 37, 38, 39, 40, 41, 42, 65, 66, 67, 68, 69, 70, 71, 72, 73, 74, 75, 76, 77, 78, 79, 80, 81, 82] (by decide +kernel) (by decide +kernel)
set_option maxRecDepth 20000 in
theorem gX6_garbage_X3_trace : GoodIn wsX6_garbage (wsV RX6 80 RX3 yX3_trace wsX3_trace) := goodIn_app (goodIn_of _ (by decide +kernel)) ggX6_garbage_X3_trace
set_option maxRecDepth 20000 in
theorem ggX6_garbage_X1_usedWords : GoodIn wsX6_garbage wsX1_usedWords := goodIn_r _ [46, 29, 24, 68, 69, 70, 71, 72, 73, 74, 75, 76, 77, 78, 79, 80, 81, 82] (by decide +kernel) (by decide +kernel)
set_option maxRecDepth 20000 in
theorem gX6_garbage_X1_usedWords : GoodIn wsX6_garbage (wsV RX6 128 RX1 yX1_usedWords wsX1_usedWords) := goodIn_app (goodIn_of _ (by decide +kernel)) ggX6_garbage_X1_usedWords
set_option maxRecDepth 20000 in
theorem ggX6_garbage_X3_liveWords : GoodIn wsX6_garbage wsX3_liveWords := goodIn_r _ [50, 9, 12, 51, 52, 53, 22, 54, 55, 56, 65, 66, 67, 68, 69, 70, 71, 72, 73, 74, 75, 76, 77, 78, 79, 80, 81, 82] (by decide +kernel) (by decide +kernel)
set_option maxRecDepth 20000 in
theorem gX6_garbage_X3_liveWords : GoodIn wsX6_garbage (wsV RX6 158 RX3 yX3_liveWords wsX3_liveWords) := goodIn_app (goodIn_of _ (by decide +kernel)) ggX6_garbage_X3_liveWords
set_option maxRecDepth 20000 in
theorem ggX6_distance_X1_objectAt : GoodIn wsX6_distance wsX1_objectAt := goodIn_r _ [9, 10, 11, 12, 13, 8, 14, 15, 57, 58, 59, 60, 61, 62, 63, 64, 65, 66, 67, 68, 69, 70, 71] (by decide +kernel) (by decide +kernel)
set_option maxRecDepth 20000 in
theorem gX6_distance_X1_objectAt : GoodIn wsX6_distance (wsV RX6 73 RX1 yX1_objectAt wsX1_objectAt) := goodIn_app (goodIn_of _ (by decide +kernel)) ggX6_distance_X1_objectAt
set_option maxRecDepth 20000 in
theorem ggX6_distance_X3_trace : GoodIn wsX6_distance wsX3_trace := goodIn_r _ [20, 21, 22, 23, 24, 25, 26, 27, 28, 29, 30, 31, 32, 6, 7, 8, 9, 10, 11, 12, 13, 14, 15, 33, 34, 35, 19, 36, 37, 38, 39, 40, 41, 42, 43, 44, 45, 54, 55, 56, 57, 58, 59, 60, 61, 62, 63, 64, 65, 66, 67, 68, 69, 70, 71] (by decide +kernel) (by decide +kernel)
set_option maxRecDepth 20000 in
theorem gX6_distance_X3_trace : GoodIn wsX6_distance (wsV RX6 80 RX3 yX3_trace wsX3_trace) := goodIn_app (goodIn_of _ (by decide +kernel)) ggX6_distance_X3_trace
set_option maxRecDepth 20000 in
theorem ggX6_retained_X1_objectAt : GoodIn wsX6_retained wsX1_objectAt := goodIn_r _ [8, 9, 10, 11, 12, 7, 13, 14, 63, 64, 65, 66, 67, 68, 69, 70, 71, 72, 73, 74, 75, 76, 77] (by decide +kernel) (by decide +kernel)
set_option maxRecDepth 20000 in
theorem gX6_retained_X1_objectAt : GoodIn wsX6_retained (wsV RX6 73 RX1 yX1_objectAt wsX1_objectAt) := goodIn_app (goodIn_of _ (by decide +kernel)) ggX6_retained_X1_objectAt
set_option maxRecDepth 20000 in
theorem ggX6_retained_X3_trace : GoodIn wsX6_retained wsX3_trace := goodIn_r _ [19, 20, 21, 22, 23, 24, 25, 26, 27, 28, 29, 30, 31, 5, 6, 7, 8, 9, 10, 11, 12, 13, 14, 32, 33, 34, 18, 35, 36, 37, 38, 39, 40, 41, 42, 43, 44, 78, 79, 80, 63, 64, 65, 66, 67, 68, 69, 70, 71, 72, 73, 74, 75, 76, 77] (by decide +kernel) (by decide +kernel)
set_option maxRecDepth 20000 in
theorem gX6_retained_X3_trace : GoodIn wsX6_retained (wsV RX6 80 RX3 yX3_trace wsX3_trace) := goodIn_app (goodIn_of _ (by decide +kernel)) ggX6_retained_X3_trace
set_option maxRecDepth 20000 in
theorem ggX6_retained_X3_liveWords : GoodIn wsX6_retained wsX3_liveWords := goodIn_r _ [48, 21, 24, 49, 50, 51, 7, 52, 53, 54, 78, 79, 80, 63, 64, 65, 66, 67, 68, 69, 70, 71, 72, 73, 74, 75, 76, 77] (by decide +kernel) (by decide +kernel)
set_option maxRecDepth 20000 in
theorem gX6_retained_X3_liveWords : GoodIn wsX6_retained (wsV RX6 158 RX3 yX3_liveWords wsX3_liveWords) := goodIn_app (goodIn_of _ (by decide +kernel)) ggX6_retained_X3_liveWords
set_option maxRecDepth 20000 in
theorem ggX6_free_X2_measure : GoodIn wsX6_free wsX2_measure := goodIn_r _ [9, 10, 11, 12, 13, 14, 15, 16, 17, 18, 19, 8, 20, 21, 22, 23, 24, 33, 34, 35, 36, 37, 38, 39, 40, 41, 42, 43, 44, 45, 46, 47, 48] (by decide +kernel) (by decide +kernel)
set_option maxRecDepth 20000 in
theorem gX6_free_X2_measure : GoodIn wsX6_free (wsV RX6 165 RX2 yX2_measure wsX2_measure) := goodIn_app (goodIn_of _ (by decide +kernel)) ggX6_free_X2_measure
set_option maxRecDepth 20000 in
theorem ggX6_fault_X5_read : GoodIn wsX6_fault wsX5_read := goodIn_r _ [7, 8, 9, 10, 11, 12, 13, 14, 6, 15, 16, 17, 18, 19, 20, 21, 22, 23, 24, 25, 26, 27, 28, 29, 30, 31, 32, 33, 34, 35, 36, 37, 38, 39, 40, 41, 42, 43, 44, 45, 46, 47, 48, 49, 50, 51, 60, 61, 62, 63, 64, 65, 66, 67, 68] (by decide +kernel) (by decide +kernel)
set_option maxRecDepth 20000 in
theorem gX6_fault_X5_read : GoodIn wsX6_fault (wsV RX6 177 RX5 yX5_read wsX5_read) := goodIn_app (goodIn_of _ (by decide +kernel)) ggX6_fault_X5_read
set_option maxRecDepth 20000 in
theorem ggX6_run_X5_read : GoodIn wsX6_run wsX5_read := goodIn_r _ [10, 11, 12, 13, 14, 15, 16, 17, 9, 18, 19, 20, 21, 22, 23, 24, 25, 26, 27, 28, 29, 30, 31, 32, 33, 34, 35, 36, 37, 38, 39, 40, 41, 42, 43, 44, 45, 46, 47, 48, 49, 50, 51, 52, 53, 54, 249, 250, 251, 252, 253, 254, 255, 256, 257] (by decide +kernel) (by decide +kernel)
set_option maxRecDepth 20000 in
theorem gX6_run_X5_read : GoodIn wsX6_run (wsV RX6 177 RX5 yX5_read wsX5_read) := goodIn_app (goodIn_of _ (by decide +kernel)) ggX6_run_X5_read
set_option maxRecDepth 20000 in
theorem ggX6_run_X6_perform : GoodIn wsX6_run wsX6_perform := goodIn_r _ [59, 1, 60, 61, 62, 63, 64, 65, 66, 58, 67, 68, 69, 70, 71, 72, 73, 74, 75, 76, 77, 78, 79, 80, 81, 82, 83, 84, 85, 86, 87, 88, 89, 90, 91, 92, 93, 94, 95, 96, 97, 98, 99, 100, 101, 102, 103, 104, 105, 106, 107, 108, 109, 110, 111, 112, 113, 114, 115, 116, 117, 118, 119, 120, 121, 122, 123, 124, 125, 126, 127, 128, 129, 130, 131, 132, 133, 134, 135, 136, 137, 138, 139, 140, 141, 142, 143, 3, 144, 145, 146, 147, 148, 149, 150, 151, 152, 153, 154, 155, 156, 157, 158, 159, 160, 161, 162, 163, 164, 165, 166, 167, 168, 169, 170, 171, 172, 173, 174, 175, 176, 177, 178, 179, 180, 181, 182, 183, 184, 185, 186, 187, 188, 189, 190, 191, 192, 193, 194, 195, 196, 197, 198, 199, 200, 201, 202, 203, 204, 205, 206, 207, 208, 209, 210, 211, 212, 213, 214, 215, 216, 217, 218, 219, 220, 221, 222, 223, 224, 225, 226, 227, 228, 229, 230, 231, 232, 233, 234, 235, 236, 237, 241, 242, 243, 244, 245, 246, 247, 248, 249, 250, 251, 252, 253, 254, 255, 256, 257, 258, 259, 260, 261, 262, 263, 264, 265, 266, 267, 268, 269, 270, 271, 272, 273, 274, 275, 276, 277, 278] (by decide +kernel) (by decide +kernel)
set_option maxRecDepth 20000 in
theorem gX6_run_X6_perform : GoodIn wsX6_run (wsV RX6 186 RX6 yX6_perform wsX6_perform) := goodIn_app (goodIn_of _ (by decide +kernel)) ggX6_run_X6_perform
set_option maxRecDepth 20000 in
theorem ggX6_run_X6_isError : GoodIn wsX6_run wsX6_isError := goodIn_r _ [240, 68, 3, 70] (by decide +kernel) (by decide +kernel)
set_option maxRecDepth 20000 in
theorem gX6_run_X6_isError : GoodIn wsX6_run (va_wsS RX6 189 yX6_isError wsX6_isError) := goodIn_app (goodIn_of _ (by decide +kernel)) ggX6_run_X6_isError
set_option maxRecDepth 20000 in
theorem ggX6_save_X1_init : GoodIn wsX6_save wsX1_init := goodIn_r _ [8, 9, 10, 11, 12, 13, 14, 15, 16, 17, 18, 19, 20, 21, 22, 56, 57, 58, 59, 60, 61, 62, 63, 64, 65, 66, 67, 68, 69, 70] (by decide +kernel) (by decide +kernel)
set_option maxRecDepth 20000 in
theorem gX6_save_X1_init_n11 : GoodIn wsX6_save (wsX1_init) := ggX6_save_X1_init
set_option maxRecDepth 20000 in
theorem ggX6_save_X1_copyFrom : GoodIn wsX6_save wsX1_copyFrom := goodIn_r _ [26, 27, 28, 29, 30, 31, 13, 32, 33, 34, 35, 14, 15, 16, 17, 18, 19, 20, 21, 22, 56, 57, 58, 59, 60, 61, 62, 63, 64, 65, 66, 67, 68, 69, 70] (by decide +kernel) (by decide +kernel)
set_option maxRecDepth 20000 in
theorem gX6_save_X1_copyFrom : GoodIn wsX6_save (wsV RX6 192 RX1 yX1_copyFrom wsX1_copyFrom) := goodIn_app (goodIn_of _ (by decide +kernel)) ggX6_save_X1_copyFrom
set_option maxRecDepth 20000 in
theorem ggX6_save_X1_objectCount : GoodIn wsX6_save wsX1_objectCount := goodIn_r _ [39, 27, 40, 41, 42, 5, 43, 13, 44, 45, 46, 47, 56, 57, 58, 59, 60, 61, 62, 63, 64, 65, 66, 67, 68, 69, 70] (by decide +kernel) (by decide +kernel)
set_option maxRecDepth 20000 in
theorem gX6_save_X1_objectCount : GoodIn wsX6_save (wsV RX6 195 RX1 yX1_objectCount wsX1_objectCount) := goodIn_app (goodIn_of _ (by decide +kernel)) ggX6_save_X1_objectCount
set_option maxRecDepth 20000 in
theorem ggX6_restore_X1_copyFrom : GoodIn wsX6_restore wsX1_copyFrom := goodIn_r _ [9, 10, 11, 12, 13, 14, 15, 16, 17, 18, 19, 20, 21, 22, 23, 24, 25, 26, 27, 28, 49, 50, 51, 52, 53, 54, 55, 56, 57, 58, 59, 60, 61, 62, 63] (by decide +kernel) (by decide +kernel)
set_option maxRecDepth 20000 in
theorem gX6_restore_X1_copyFrom : GoodIn wsX6_restore (wsV RX6 192 RX1 yX1_copyFrom wsX1_copyFrom) := goodIn_app (goodIn_of _ (by decide +kernel)) ggX6_restore_X1_copyFrom
set_option maxRecDepth 20000 in
theorem ggX6_restore_X1_objectCount : GoodIn wsX6_restore wsX1_objectCount := goodIn_r _ [32, 10, 33, 34, 35, 8, 36, 15, 37, 38, 39, 40, 49, 50, 51, 52, 53, 54, 55, 56, 57, 58, 59, 60, 61, 62, 63] (by decide +kernel) (by decide +kernel)
set_option maxRecDepth 20000 in
theorem gX6_restore_X1_objectCount : GoodIn wsX6_restore (wsV RX6 195 RX1 yX1_objectCount wsX1_objectCount) := goodIn_app (goodIn_of _ (by decide +kernel)) ggX6_restore_X1_objectCount
set_option maxRecDepth 20000 in
theorem ggX6_count_X1_objectCount : GoodIn wsX6_count wsX1_objectCount := goodIn_r _ [14, 15, 16, 17, 18, 13, 19, 20, 21, 22, 23, 24, 42, 43, 44, 45, 46, 47, 48, 49, 50, 51, 52, 53, 54, 55, 56] (by decide +kernel) (by decide +kernel)
set_option maxRecDepth 20000 in
theorem gX6_count_X1_objectCount : GoodIn wsX6_count (wsV RX6 195 RX1 yX1_objectCount wsX1_objectCount) := goodIn_app (goodIn_of _ (by decide +kernel)) ggX6_count_X1_objectCount
set_option maxRecDepth 20000 in
theorem ggX6_count_X1_pinnedCount : GoodIn wsX6_count wsX1_pinnedCount := goodIn_r _ [28, 15, 29, 30, 31, 13, 32, 33, 16, 17, 18, 19, 20, 21, 22, 23, 24, 42, 43, 44, 45, 46, 47, 48, 49, 50, 51, 52, 53, 54, 55, 56] (by decide +kernel) (by decide +kernel)
set_option maxRecDepth 20000 in
theorem gX6_count_X1_pinnedCount : GoodIn wsX6_count (wsV RX6 118 RX1 yX1_pinnedCount wsX1_pinnedCount) := goodIn_app (goodIn_of _ (by decide +kernel)) ggX6_count_X1_pinnedCount
set_option maxRecDepth 20000 in
theorem ggX6_digest_X6_count : GoodIn wsX6_digest wsX6_count := goodIn_r _ [16, 2, 17, 18, 19, 7, 20, 9, 11, 21, 22, 23, 24, 25, 26, 27, 28, 29, 30, 31, 32, 33, 34, 35, 36, 37, 38, 39, 40, 41, 42, 43, 44, 45, 137, 138, 139, 140, 141, 142, 143, 144, 145, 146, 147, 148, 149, 150, 151, 152, 153, 154, 155, 156, 157, 158, 159, 161, 162, 163, 164, 165, 166, 167, 168, 169] (by decide +kernel) (by decide +kernel)
set_option maxRecDepth 20000 in
theorem gX6_digest_X6_count : GoodIn wsX6_digest (wsV RX6 209 RX6 yX6_count wsX6_count) := goodIn_app (goodIn_of _ (by decide +kernel)) ggX6_digest_X6_count
set_option maxRecDepth 20000 in
theorem ggX6_digest_X6_absorb : GoodIn wsX6_digest wsX6_absorb := goodIn_r _ [48, 49] (by decide +kernel) (by decide +kernel)
set_option maxRecDepth 20000 in
theorem gX6_digest_X6_absorb : GoodIn wsX6_digest (va_wsS RX6 212 yX6_absorb wsX6_absorb) := goodIn_app (goodIn_of _ (by decide +kernel)) ggX6_digest_X6_absorb
set_option maxRecDepth 20000 in
theorem ggX6_digest_X6_absorbRow : GoodIn wsX6_digest wsX6_absorbRow := goodIn_r _ [52, 46, 47, 15, 48, 49] (by decide +kernel) (by decide +kernel)
set_option maxRecDepth 20000 in
theorem gX6_digest_X6_absorbRow : GoodIn wsX6_digest (va_wsS RX6 216 yX6_absorbRow wsX6_absorbRow) := goodIn_app (goodIn_of _ (by decide +kernel)) ggX6_digest_X6_absorbRow
set_option maxRecDepth 20000 in
theorem ggX6_digest_X6_absorbObjects : GoodIn wsX6_digest wsX6_absorbObjects := goodIn_r _ [56, 57, 2, 58, 17, 59, 60, 61, 62, 63, 64, 65, 66, 67, 68, 69, 70, 71, 72, 73, 74, 75, 76, 77, 78, 79, 80, 81, 25, 82, 32, 33, 34, 35, 36, 27, 83, 29, 30, 31, 84, 85, 86, 87, 88, 89, 90, 91, 92, 93, 94, 95, 96, 97, 98, 99, 100, 101, 102, 42, 43, 44, 45, 28, 103, 104, 105, 106, 15, 107, 108, 109, 110, 111, 112, 113, 114, 115, 116, 117, 118, 119, 46, 47, 48, 49, 50, 51, 52, 137, 138, 139, 140, 141, 142, 143, 144, 145, 146, 147, 148, 149, 150, 151, 152, 153, 154, 155, 156, 157, 158, 159, 170, 171, 172, 173] (by decide +kernel) (by decide +kernel)
set_option maxRecDepth 20000 in
theorem gX6_digest_X6_absorbObjects : GoodIn wsX6_digest (wsV RX6 220 RX6 yX6_absorbObjects wsX6_absorbObjects) := goodIn_app (goodIn_of _ (by decide +kernel)) ggX6_digest_X6_absorbObjects
set_option maxRecDepth 20000 in
theorem ggX6_digest_X2_measure : GoodIn wsX6_digest wsX2_measure := goodIn_r _ [124, 125, 126, 127, 128, 72, 73, 74, 129, 130, 131, 123, 132, 133, 134, 135, 136, 160, 145, 146, 147, 148, 149, 150, 151, 152, 153, 154, 155, 156, 157, 158, 159] (by decide +kernel) (by decide +kernel)
set_option maxRecDepth 20000 in
theorem gX6_digest_X2_measure : GoodIn wsX6_digest (wsV RX6 165 RX2 yX2_measure wsX2_measure) := goodIn_app (goodIn_of _ (by decide +kernel)) ggX6_digest_X2_measure
set_option maxRecDepth 20000 in
theorem ggX6_absorbObjects_X4_tally : GoodIn wsX6_absorbObjects wsX4_tally := goodIn_r _ [10, 11, 12, 13, 14, 15, 16, 17, 18, 19, 20, 21, 22, 23, 9, 24, 25, 26, 27, 28, 29, 30, 31, 32, 33, 34, 35, 36, 37, 38, 39, 112, 97, 98, 99, 100, 101, 102, 103, 104, 105, 106, 107, 108, 109, 110, 111] (by decide +kernel) (by decide +kernel)
set_option maxRecDepth 20000 in
theorem gX6_absorbObjects_X4_tally : GoodIn wsX6_absorbObjects (wsV RX6 76 RX4 yX4_tally wsX4_tally) := goodIn_app (goodIn_of _ (by decide +kernel)) ggX6_absorbObjects_X4_tally
set_option maxRecDepth 20000 in
theorem ggX6_absorbObjects_X3_trace : GoodIn wsX6_absorbObjects wsX3_trace := goodIn_r _ [44, 45, 46, 47, 48, 49, 50, 51, 52, 18, 19, 20, 53, 26, 27, 28, 29, 30, 31, 32, 33, 34, 35, 54, 55, 56, 43, 57, 58, 59, 60, 61, 62, 63, 37, 38, 39, 113, 114, 115, 97, 98, 99, 100, 101, 102, 103, 104, 105, 106, 107, 108, 109, 110, 111] (by decide +kernel) (by decide +kernel)
set_option maxRecDepth 20000 in
theorem gX6_absorbObjects_X3_trace : GoodIn wsX6_absorbObjects (wsV RX6 80 RX3 yX3_trace wsX3_trace) := goodIn_app (goodIn_of _ (by decide +kernel)) ggX6_absorbObjects_X3_trace
set_option maxRecDepth 20000 in
theorem ggX6_absorbObjects_X1_isObject : GoodIn wsX6_absorbObjects wsX1_isObject := goodIn_r _ [39, 30, 31, 32, 33, 28, 34, 35, 97, 98, 99, 100, 101, 102, 103, 104, 105, 106, 107, 108, 109, 110, 111] (by decide +kernel) (by decide +kernel)
set_option maxRecDepth 20000 in
theorem gX6_absorbObjects_X1_isObject : GoodIn wsX6_absorbObjects (wsV RX6 224 RX1 yX1_isObject wsX1_isObject) := goodIn_app (goodIn_of _ (by decide +kernel)) ggX6_absorbObjects_X1_isObject
set_option maxRecDepth 20000 in
theorem ggX6_absorbObjects_X6_property : GoodIn wsX6_absorbObjects wsX6_property := goodIn_r _ [69, 2, 70, 71, 72, 73, 1, 74, 3, 75, 76, 77, 78, 28, 79, 80, 81, 89, 90, 91, 92, 93, 94, 95, 96, 97, 98, 99, 100, 101, 102, 103, 104, 105, 106, 107, 108, 109, 110, 111, 112, 113, 114, 115] (by decide +kernel) (by decide +kernel)
set_option maxRecDepth 20000 in
theorem gX6_absorbObjects_X6_property : GoodIn wsX6_absorbObjects (wsV RX6 84 RX6 yX6_property wsX6_property) := goodIn_app (goodIn_of _ (by decide +kernel)) ggX6_absorbObjects_X6_property
set_option maxRecDepth 20000 in
theorem ggX6_absorbObjects_X6_absorb : GoodIn wsX6_absorbObjects wsX6_absorb := goodIn_r _ [84, 85] (by decide +kernel) (by decide +kernel)
set_option maxRecDepth 20000 in
theorem gX6_absorbObjects_X6_absorb : GoodIn wsX6_absorbObjects (va_wsS RX6 212 yX6_absorb wsX6_absorb) := goodIn_app (goodIn_of _ (by decide +kernel)) ggX6_absorbObjects_X6_absorb
set_option maxRecDepth 20000 in
theorem ggX6_absorbObjects_X1_sizeOf : GoodIn wsX6_absorbObjects wsX1_sizeOf := goodIn_r _ [79, 80, 81, 97, 98, 99, 100, 101, 102, 103, 104, 105, 106, 107, 108, 109, 110, 111] (by decide +kernel) (by decide +kernel)
set_option maxRecDepth 20000 in
theorem gX6_absorbObjects_X1_sizeOf : GoodIn wsX6_absorbObjects (wsV RX6 91 RX1 yX1_sizeOf wsX1_sizeOf) := goodIn_app (goodIn_of _ (by decide +kernel)) ggX6_absorbObjects_X1_sizeOf
set_option maxRecDepth 20000 in
theorem ggX6_absorbObjects_X6_absorbRow : GoodIn wsX6_absorbObjects wsX6_absorbRow := goodIn_r _ [88, 82, 83, 68, 84, 85] (by decide +kernel) (by decide +kernel)
set_option maxRecDepth 20000 in
theorem gX6_absorbObjects_X6_absorbRow : GoodIn wsX6_absorbObjects (va_wsS RX6 216 yX6_absorbRow wsX6_absorbRow) := goodIn_app (goodIn_of _ (by decide +kernel)) ggX6_absorbObjects_X6_absorbRow
set_option maxRecDepth 20000 in
theorem ggX6_absorbRow_X6_absorb : GoodIn wsX6_absorbRow wsX6_absorb := goodIn_r _ [4, 5] (by decide +kernel) (by decide +kernel)
set_option maxRecDepth 20000 in
theorem gX6_absorbRow_X6_absorb : GoodIn wsX6_absorbRow (va_wsS RX6 212 yX6_absorb wsX6_absorb) := goodIn_app (goodIn_of _ (by decide +kernel)) ggX6_absorbRow_X6_absorb
set_option maxRecDepth 20000 in
theorem ggX6_property_X1_sizeOf : GoodIn wsX6_property wsX1_sizeOf := goodIn_r _ [14, 15, 16, 25, 26, 27, 28, 29, 30, 31, 32, 33, 34, 35, 36, 37, 38, 39] (by decide +kernel) (by decide +kernel)
set_option maxRecDepth 20000 in
theorem gX6_property_X1_sizeOf : GoodIn wsX6_property (wsV RX6 91 RX1 yX1_sizeOf wsX1_sizeOf) := goodIn_app (goodIn_of _ (by decide +kernel)) ggX6_property_X1_sizeOf
set_option maxRecDepth 20000 in
theorem ggX6_fieldWord_X1_objectAt : GoodIn wsX6_fieldWord wsX1_objectAt := goodIn_r _ [7, 8, 9, 10, 11, 6, 12, 13, 22, 23, 24, 25, 26, 27, 28, 29, 30, 31, 32, 33, 34, 35, 36] (by decide +kernel) (by decide +kernel)
set_option maxRecDepth 20000 in
theorem gX6_fieldWord_X1_objectAt : GoodIn wsX6_fieldWord (wsV RX6 73 RX1 yX1_objectAt wsX1_objectAt) := goodIn_app (goodIn_of _ (by decide +kernel)) ggX6_fieldWord_X1_objectAt
set_option maxRecDepth 20000 in
theorem ggX6_dataWord_X1_objectAt : GoodIn wsX6_dataWord wsX1_objectAt := goodIn_r _ [8, 9, 10, 11, 12, 7, 13, 14, 23, 24, 25, 26, 27, 28, 29, 30, 31, 32, 33, 34, 35, 36, 37] (by decide +kernel) (by decide +kernel)
set_option maxRecDepth 20000 in
theorem gX6_dataWord_X1_objectAt : GoodIn wsX6_dataWord (wsV RX6 73 RX1 yX1_objectAt wsX1_objectAt) := goodIn_app (goodIn_of _ (by decide +kernel)) ggX6_dataWord_X1_objectAt
set_option maxRecDepth 20000 in
theorem ggX6_perform_X6_alloc : GoodIn wsX6_perform wsX6_alloc := goodIn_r _ [10, 11, 12, 13, 14, 15, 16, 17, 18, 19, 20, 21, 22, 23, 24, 25, 26, 27, 28, 29, 30, 31, 32, 33, 34, 35, 36, 37, 38, 39, 40, 41, 42, 43, 44, 45, 182, 183, 184, 185, 186, 187, 188, 189, 199, 200, 201, 202, 203, 204, 205, 206, 207, 208, 209, 210, 211, 212, 213] (by decide +kernel) (by decide +kernel)
set_option maxRecDepth 20000 in
theorem gX6_perform_X6_alloc : GoodIn wsX6_perform (wsV RX6 250 RX6 yX6_alloc wsX6_alloc) := goodIn_app (goodIn_of _ (by decide +kernel)) ggX6_perform_X6_alloc
set_option maxRecDepth 20000 in
theorem ggX6_perform_X6_setRoot : GoodIn wsX6_perform wsX6_setRoot := goodIn_r _ [49, 12, 11, 50, 51, 52, 53, 17, 54, 55, 56, 57, 58, 20, 59, 60, 61, 62, 19, 63, 64, 9, 65, 182, 183, 184, 185, 186, 187, 188, 189, 199, 200, 201, 202, 203, 204, 205, 206, 207, 208, 209, 210, 211, 212, 213] (by decide +kernel) (by decide +kernel)
set_option maxRecDepth 20000 in
theorem gX6_perform_X6_setRoot : GoodIn wsX6_perform (wsV RX6 253 RX6 yX6_setRoot wsX6_setRoot) := goodIn_app (goodIn_of _ (by decide +kernel)) ggX6_perform_X6_setRoot
set_option maxRecDepth 20000 in
theorem ggX6_perform_X6_setWeak : GoodIn wsX6_perform wsX6_setWeak := goodIn_r _ [69, 12, 11, 70, 51, 52, 53, 17, 54, 55, 56, 57, 58, 20, 59, 60, 61, 62, 19, 63, 64, 9, 65, 182, 183, 184, 185, 186, 187, 188, 189, 199, 200, 201, 202, 203, 204, 205, 206, 207, 208, 209, 210, 211, 212, 213] (by decide +kernel) (by decide +kernel)
set_option maxRecDepth 20000 in
theorem gX6_perform_X6_setWeak : GoodIn wsX6_perform (wsV RX6 256 RX6 yX6_setWeak wsX6_setWeak) := goodIn_app (goodIn_of _ (by decide +kernel)) ggX6_perform_X6_setWeak
set_option maxRecDepth 20000 in
theorem ggX6_perform_X6_setField : GoodIn wsX6_perform wsX6_setField := goodIn_r _ [74, 12, 11, 75, 76, 77, 78, 9, 79, 80, 81, 56, 57, 17, 58, 20, 59, 60, 61, 62, 19, 51, 52, 53, 54, 55, 63, 64, 65, 182, 183, 184, 185, 186, 187, 188, 189, 199, 200, 201, 202, 203, 204, 205, 206, 207, 208, 209, 210, 211, 212, 213] (by decide +kernel) (by decide +kernel)
set_option maxRecDepth 20000 in
theorem gX6_perform_X6_setField : GoodIn wsX6_perform (wsV RX6 262 RX6 yX6_setField wsX6_setField) := goodIn_app (goodIn_of _ (by decide +kernel)) ggX6_perform_X6_setField
set_option maxRecDepth 20000 in
theorem ggX6_perform_X6_pin : GoodIn wsX6_perform wsX6_pin := goodIn_r _ [85, 12, 11, 86, 87, 81, 56, 57, 17, 58, 20, 59, 60, 61, 62, 19, 88, 89, 90, 91, 92, 93, 94, 95, 27, 96, 97, 98, 99, 182, 183, 184, 185, 186, 187, 188, 189, 199, 200, 201, 202, 203, 204, 205, 206, 207, 208, 209, 210, 211, 212, 213] (by decide +kernel) (by decide +kernel)
set_option maxRecDepth 20000 in
theorem gX6_perform_X6_pin : GoodIn wsX6_perform (wsV RX6 266 RX6 yX6_pin wsX6_pin) := goodIn_app (goodIn_of _ (by decide +kernel)) ggX6_perform_X6_pin
set_option maxRecDepth 20000 in
theorem ggX6_perform_X6_collect : GoodIn wsX6_perform wsX6_collect := goodIn_r _ [103, 12, 104, 105, 106, 107, 108, 109, 17, 110, 19, 20, 111, 112, 113, 114, 115, 116, 117, 118, 119, 120, 121, 122, 123, 124, 125, 126, 127, 128, 56, 57, 58, 59, 60, 61, 62, 129, 130, 131, 132, 133, 134, 135, 136, 137, 138, 139, 140, 93, 94, 95, 27, 96, 97, 98, 99, 141, 142, 143, 144, 145, 146, 147, 148, 149, 150, 151, 152, 33, 153, 154, 155, 156, 157, 158, 43, 44, 45, 25, 26, 159, 160, 161, 162, 163, 164, 165, 166, 167, 168, 169, 170, 171, 172, 173, 174, 175, 176, 177, 28, 29, 178, 179, 180, 181, 42, 38, 39, 40, 41, 31, 32, 34, 35, 36, 37, 182, 183, 184, 185, 186, 187, 188, 189, 199, 200, 201, 202, 203, 204, 205, 206, 207, 208, 209, 210, 211, 212, 213, 214, 215, 216, 217, 218, 219] (by decide +kernel) (by decide +kernel)
set_option maxRecDepth 20000 in
theorem gX6_perform_X6_collect : GoodIn wsX6_perform (wsV RX6 270 RX6 yX6_collect wsX6_collect) := goodIn_app (goodIn_of _ (by decide +kernel)) ggX6_perform_X6_collect
theorem dX6_init_0 : decode cX6_init 0 = .ok (.aload_n 0, 1) := by decide +kernel
theorem dX6_init_1 : decode cX6_init 1 = .ok (.invokespecial 3, 3) := by decide +kernel
theorem dX6_init_4 : decode cX6_init 4 = .ok (.aload_n 0, 1) := by decide +kernel
theorem dX6_init_5 : decode cX6_init 5 = .ok (.new 9, 3) := by decide +kernel
theorem dX6_init_8 : decode cX6_init 8 = .ok (.dup, 1) := by decide +kernel
theorem dX6_init_9 : decode cX6_init 9 = .ok (.invokespecial 11, 3) := by decide +kernel
theorem dX6_init_12 : decode cX6_init 12 = .ok (.putfield 12, 3) := by decide +kernel
theorem dX6_init_15 : decode cX6_init 15 = .ok (.aload_n 0, 1) := by decide +kernel
theorem dX6_init_16 : decode cX6_init 16 = .ok (.getfield 12, 3) := by decide +kernel
theorem dX6_init_19 : decode cX6_init 19 = .ok (.bipush 100, 2) := by decide +kernel
theorem dX6_init_21 : decode cX6_init 21 = .ok (.bipush 8, 2) := by decide +kernel
theorem dX6_init_23 : decode cX6_init 23 = .ok (.invokevirtual 16, 3) := by decide +kernel
theorem dX6_init_26 : decode cX6_init 26 = .ok (.aload_n 0, 1) := by decide +kernel
theorem dX6_init_27 : decode cX6_init 27 = .ok (.iconst 2, 1) := by decide +kernel
theorem dX6_init_28 : decode cX6_init 28 = .ok (.anewarray 9, 3) := by decide +kernel
theorem dX6_init_31 : decode cX6_init 31 = .ok (.putfield 20, 3) := by decide +kernel
theorem dX6_init_34 : decode cX6_init 34 = .ok (.aload_n 0, 1) := by decide +kernel
theorem dX6_init_35 : decode cX6_init 35 = .ok (.new 24, 3) := by decide +kernel
theorem dX6_init_38 : decode cX6_init 38 = .ok (.dup, 1) := by decide +kernel
theorem dX6_init_39 : decode cX6_init 39 = .ok (.invokespecial 26, 3) := by decide +kernel
theorem dX6_init_42 : decode cX6_init 42 = .ok (.putfield 27, 3) := by decide +kernel
theorem dX6_init_45 : decode cX6_init 45 = .ok (.aload_n 0, 1) := by decide +kernel
theorem dX6_init_46 : decode cX6_init 46 = .ok (.new 31, 3) := by decide +kernel
theorem dX6_init_49 : decode cX6_init 49 = .ok (.dup, 1) := by decide +kernel
theorem dX6_init_50 : decode cX6_init 50 = .ok (.invokespecial 33, 3) := by decide +kernel
theorem dX6_init_53 : decode cX6_init 53 = .ok (.putfield 34, 3) := by decide +kernel
theorem dX6_init_56 : decode cX6_init 56 = .ok (.aload_n 0, 1) := by decide +kernel
theorem dX6_init_57 : decode cX6_init 57 = .ok (.new 38, 3) := by decide +kernel
theorem dX6_init_60 : decode cX6_init 60 = .ok (.dup, 1) := by decide +kernel
theorem dX6_init_61 : decode cX6_init 61 = .ok (.invokespecial 40, 3) := by decide +kernel
theorem dX6_init_64 : decode cX6_init 64 = .ok (.putfield 41, 3) := by decide +kernel
theorem dX6_init_67 : decode cX6_init 67 = .ok (.aload_n 0, 1) := by decide +kernel
theorem dX6_init_68 : decode cX6_init 68 = .ok (.new 45, 3) := by decide +kernel
theorem dX6_init_71 : decode cX6_init 71 = .ok (.dup, 1) := by decide +kernel
theorem dX6_init_72 : decode cX6_init 72 = .ok (.invokespecial 47, 3) := by decide +kernel
theorem dX6_init_75 : decode cX6_init 75 = .ok (.putfield 48, 3) := by decide +kernel
theorem dX6_init_78 : decode cX6_init 78 = .ok (.aload_n 0, 1) := by decide +kernel
theorem dX6_init_79 : decode cX6_init 79 = .ok (.new 52, 3) := by decide +kernel
theorem dX6_init_82 : decode cX6_init 82 = .ok (.dup, 1) := by decide +kernel
theorem dX6_init_83 : decode cX6_init 83 = .ok (.invokespecial 54, 3) := by decide +kernel
theorem dX6_init_86 : decode cX6_init 86 = .ok (.putfield 55, 3) := by decide +kernel
theorem dX6_init_89 : decode cX6_init 89 = .ok (.aload_n 0, 1) := by decide +kernel
theorem dX6_init_90 : decode cX6_init 90 = .ok (.iconst (-1), 1) := by decide +kernel
theorem dX6_init_91 : decode cX6_init 91 = .ok (.putfield 59, 3) := by decide +kernel
theorem dX6_init_94 : decode cX6_init 94 = .ok (.return_, 1) := by decide +kernel
theorem dX6_reset_0 : decode cX6_reset 0 = .ok (.iload_n 1, 1) := by decide +kernel
theorem dX6_reset_1 : decode cX6_reset 1 = .ok (.bipush 8, 2) := by decide +kernel
theorem dX6_reset_3 : decode cX6_reset 3 = .ok (.if_icmp .lt 21, 3) := by decide +kernel
theorem dX6_reset_6 : decode cX6_reset 6 = .ok (.iload_n 1, 1) := by decide +kernel
theorem dX6_reset_7 : decode cX6_reset 7 = .ok (.sipush 200, 3) := by decide +kernel
theorem dX6_reset_10 : decode cX6_reset 10 = .ok (.if_icmp .gt 14, 3) := by decide +kernel
theorem dX6_reset_13 : decode cX6_reset 13 = .ok (.iload_n 2, 1) := by decide +kernel
theorem dX6_reset_14 : decode cX6_reset 14 = .ok (.iconst 1, 1) := by decide +kernel
theorem dX6_reset_15 : decode cX6_reset 15 = .ok (.if_icmp .lt 9, 3) := by decide +kernel
theorem dX6_reset_18 : decode cX6_reset 18 = .ok (.iload_n 2, 1) := by decide +kernel
theorem dX6_reset_19 : decode cX6_reset 19 = .ok (.bipush 20, 2) := by decide +kernel
theorem dX6_reset_21 : decode cX6_reset 21 = .ok (.if_icmp .le 6, 3) := by decide +kernel
theorem dX6_reset_24 : decode cX6_reset 24 = .ok (.ldc 63, 2) := by decide +kernel
theorem dX6_reset_26 : decode cX6_reset 26 = .ok (.ireturn, 1) := by decide +kernel
theorem dX6_reset_27 : decode cX6_reset 27 = .ok (.aload_n 0, 1) := by decide +kernel
theorem dX6_reset_28 : decode cX6_reset 28 = .ok (.getfield 12, 3) := by decide +kernel
theorem dX6_reset_31 : decode cX6_reset 31 = .ok (.iload_n 1, 1) := by decide +kernel
theorem dX6_reset_32 : decode cX6_reset 32 = .ok (.iload_n 2, 1) := by decide +kernel
theorem dX6_reset_33 : decode cX6_reset 33 = .ok (.invokevirtual 16, 3) := by decide +kernel
theorem dX6_reset_36 : decode cX6_reset 36 = .ok (.iload_n 1, 1) := by decide +kernel
theorem dX6_reset_37 : decode cX6_reset 37 = .ok (.ireturn, 1) := by decide +kernel
theorem dX6_alloc_0 : decode cX6_alloc 0 = .ok (.iload_n 1, 1) := by decide +kernel
theorem dX6_alloc_1 : decode cX6_alloc 1 = .ok (.ifCond .lt 19, 3) := by decide +kernel
theorem dX6_alloc_4 : decode cX6_alloc 4 = .ok (.iload_n 1, 1) := by decide +kernel
theorem dX6_alloc_5 : decode cX6_alloc 5 = .ok (.bipush 6, 2) := by decide +kernel
theorem dX6_alloc_7 : decode cX6_alloc 7 = .ok (.if_icmp .gt 13, 3) := by decide +kernel
theorem dX6_alloc_10 : decode cX6_alloc 10 = .ok (.iload_n 2, 1) := by decide +kernel
theorem dX6_alloc_11 : decode cX6_alloc 11 = .ok (.ifCond .lt 9, 3) := by decide +kernel
theorem dX6_alloc_14 : decode cX6_alloc 14 = .ok (.iload_n 2, 1) := by decide +kernel
theorem dX6_alloc_15 : decode cX6_alloc 15 = .ok (.bipush 6, 2) := by decide +kernel
theorem dX6_alloc_17 : decode cX6_alloc 17 = .ok (.if_icmp .le 6, 3) := by decide +kernel
theorem dX6_alloc_20 : decode cX6_alloc 20 = .ok (.ldc 63, 2) := by decide +kernel
theorem dX6_alloc_22 : decode cX6_alloc 22 = .ok (.ireturn, 1) := by decide +kernel
theorem dX6_alloc_23 : decode cX6_alloc 23 = .ok (.aload_n 0, 1) := by decide +kernel
theorem dX6_alloc_24 : decode cX6_alloc 24 = .ok (.getfield 12, 3) := by decide +kernel
theorem dX6_alloc_27 : decode cX6_alloc 27 = .ok (.iconst 1, 1) := by decide +kernel
theorem dX6_alloc_28 : decode cX6_alloc 28 = .ok (.iload_n 1, 1) := by decide +kernel
theorem dX6_alloc_29 : decode cX6_alloc 29 = .ok (.iadd, 1) := by decide +kernel
theorem dX6_alloc_30 : decode cX6_alloc 30 = .ok (.iload_n 2, 1) := by decide +kernel
theorem dX6_alloc_31 : decode cX6_alloc 31 = .ok (.iadd, 1) := by decide +kernel
theorem dX6_alloc_32 : decode cX6_alloc 32 = .ok (.invokevirtual 64, 3) := by decide +kernel
theorem dX6_alloc_35 : decode cX6_alloc 35 = .ok (.istore_n 3, 1) := by decide +kernel
theorem dX6_alloc_36 : decode cX6_alloc 36 = .ok (.iload_n 3, 1) := by decide +kernel
theorem dX6_alloc_37 : decode cX6_alloc 37 = .ok (.iconst (-1), 1) := by decide +kernel
theorem dX6_alloc_38 : decode cX6_alloc 38 = .ok (.if_icmp .ne 6, 3) := by decide +kernel
theorem dX6_alloc_41 : decode cX6_alloc 41 = .ok (.ldc 68, 2) := by decide +kernel
theorem dX6_alloc_43 : decode cX6_alloc 43 = .ok (.ireturn, 1) := by decide +kernel
theorem dX6_alloc_44 : decode cX6_alloc 44 = .ok (.aload_n 0, 1) := by decide +kernel
theorem dX6_alloc_45 : decode cX6_alloc 45 = .ok (.getfield 12, 3) := by decide +kernel
theorem dX6_alloc_48 : decode cX6_alloc 48 = .ok (.iload_n 3, 1) := by decide +kernel
theorem dX6_alloc_49 : decode cX6_alloc 49 = .ok (.iload_n 1, 1) := by decide +kernel
theorem dX6_alloc_50 : decode cX6_alloc 50 = .ok (.iload_n 2, 1) := by decide +kernel
theorem dX6_alloc_51 : decode cX6_alloc 51 = .ok (.invokevirtual 69, 3) := by decide +kernel
theorem dX6_alloc_54 : decode cX6_alloc 54 = .ok (.iload_n 3, 1) := by decide +kernel
theorem dX6_alloc_55 : decode cX6_alloc 55 = .ok (.ireturn, 1) := by decide +kernel
theorem dX6_object_0 : decode cX6_object 0 = .ok (.aload_n 0, 1) := by decide +kernel
theorem dX6_object_1 : decode cX6_object 1 = .ok (.getfield 12, 3) := by decide +kernel
theorem dX6_object_4 : decode cX6_object 4 = .ok (.iload_n 1, 1) := by decide +kernel
theorem dX6_object_5 : decode cX6_object 5 = .ok (.invokevirtual 73, 3) := by decide +kernel
theorem dX6_object_8 : decode cX6_object 8 = .ok (.istore_n 3, 1) := by decide +kernel
theorem dX6_object_9 : decode cX6_object 9 = .ok (.iload_n 3, 1) := by decide +kernel
theorem dX6_object_10 : decode cX6_object 10 = .ok (.iconst (-1), 1) := by decide +kernel
theorem dX6_object_11 : decode cX6_object 11 = .ok (.if_icmp .eq 13, 3) := by decide +kernel
theorem dX6_object_14 : decode cX6_object 14 = .ok (.iload_n 2, 1) := by decide +kernel
theorem dX6_object_15 : decode cX6_object 15 = .ok (.ifCond .lt 9, 3) := by decide +kernel
theorem dX6_object_18 : decode cX6_object 18 = .ok (.iload_n 2, 1) := by decide +kernel
theorem dX6_object_19 : decode cX6_object 19 = .ok (.bipush 8, 2) := by decide +kernel
theorem dX6_object_21 : decode cX6_object 21 = .ok (.if_icmp .lt 6, 3) := by decide +kernel
theorem dX6_object_24 : decode cX6_object 24 = .ok (.ldc 63, 2) := by decide +kernel
theorem dX6_object_26 : decode cX6_object 26 = .ok (.ireturn, 1) := by decide +kernel
theorem dX6_object_27 : decode cX6_object 27 = .ok (.iload_n 2, 1) := by decide +kernel
theorem dX6_object_28 : decode cX6_object 28 = .ok (.bipush 6, 2) := by decide +kernel
theorem dX6_object_30 : decode cX6_object 30 = .ok (.if_icmp .ne 14, 3) := by decide +kernel
theorem dX6_object_33 : decode cX6_object 33 = .ok (.aload_n 0, 1) := by decide +kernel
theorem dX6_object_34 : decode cX6_object 34 = .ok (.getfield 41, 3) := by decide +kernel
theorem dX6_object_37 : decode cX6_object 37 = .ok (.aload_n 0, 1) := by decide +kernel
theorem dX6_object_38 : decode cX6_object 38 = .ok (.getfield 12, 3) := by decide +kernel
theorem dX6_object_41 : decode cX6_object 41 = .ok (.invokevirtual 76, 3) := by decide +kernel
theorem dX6_object_44 : decode cX6_object 44 = .ok (.iload_n 2, 1) := by decide +kernel
theorem dX6_object_45 : decode cX6_object 45 = .ok (.bipush 7, 2) := by decide +kernel
theorem dX6_object_47 : decode cX6_object 47 = .ok (.if_icmp .ne 15, 3) := by decide +kernel
theorem dX6_object_50 : decode cX6_object 50 = .ok (.aload_n 0, 1) := by decide +kernel
theorem dX6_object_51 : decode cX6_object 51 = .ok (.getfield 34, 3) := by decide +kernel
theorem dX6_object_54 : decode cX6_object 54 = .ok (.aload_n 0, 1) := by decide +kernel
theorem dX6_object_55 : decode cX6_object 55 = .ok (.getfield 12, 3) := by decide +kernel
theorem dX6_object_58 : decode cX6_object 58 = .ok (.iconst (-1), 1) := by decide +kernel
theorem dX6_object_59 : decode cX6_object 59 = .ok (.invokevirtual 80, 3) := by decide +kernel
theorem dX6_object_62 : decode cX6_object 62 = .ok (.aload_n 0, 1) := by decide +kernel
theorem dX6_object_63 : decode cX6_object 63 = .ok (.iload_n 3, 1) := by decide +kernel
theorem dX6_object_64 : decode cX6_object 64 = .ok (.iload_n 2, 1) := by decide +kernel
theorem dX6_object_65 : decode cX6_object 65 = .ok (.invokevirtual 84, 3) := by decide +kernel
theorem dX6_object_68 : decode cX6_object 68 = .ok (.ireturn, 1) := by decide +kernel
theorem dX6_next_0 : decode cX6_next 0 = .ok (.iload_n 1, 1) := by decide +kernel
theorem dX6_next_1 : decode cX6_next 1 = .ok (.iconst (-1), 1) := by decide +kernel
theorem dX6_next_2 : decode cX6_next 2 = .ok (.if_icmp .ne 12, 3) := by decide +kernel
theorem dX6_next_5 : decode cX6_next 5 = .ok (.aload_n 0, 1) := by decide +kernel
theorem dX6_next_6 : decode cX6_next 6 = .ok (.getfield 12, 3) := by decide +kernel
theorem dX6_next_9 : decode cX6_next 9 = .ok (.iconst 0, 1) := by decide +kernel
theorem dX6_next_10 : decode cX6_next 10 = .ok (.invokevirtual 88, 3) := by decide +kernel
theorem dX6_next_13 : decode cX6_next 13 = .ok (.ireturn, 1) := by decide +kernel
theorem dX6_next_14 : decode cX6_next 14 = .ok (.aload_n 0, 1) := by decide +kernel
theorem dX6_next_15 : decode cX6_next 15 = .ok (.getfield 12, 3) := by decide +kernel
theorem dX6_next_18 : decode cX6_next 18 = .ok (.iload_n 1, 1) := by decide +kernel
theorem dX6_next_19 : decode cX6_next 19 = .ok (.invokevirtual 73, 3) := by decide +kernel
theorem dX6_next_22 : decode cX6_next 22 = .ok (.istore_n 2, 1) := by decide +kernel
theorem dX6_next_23 : decode cX6_next 23 = .ok (.iload_n 2, 1) := by decide +kernel
theorem dX6_next_24 : decode cX6_next 24 = .ok (.iconst (-1), 1) := by decide +kernel
theorem dX6_next_25 : decode cX6_next 25 = .ok (.if_icmp .ne 6, 3) := by decide +kernel
theorem dX6_next_28 : decode cX6_next 28 = .ok (.ldc 63, 2) := by decide +kernel
theorem dX6_next_30 : decode cX6_next 30 = .ok (.ireturn, 1) := by decide +kernel
theorem dX6_next_31 : decode cX6_next 31 = .ok (.aload_n 0, 1) := by decide +kernel
theorem dX6_next_32 : decode cX6_next 32 = .ok (.getfield 12, 3) := by decide +kernel
theorem dX6_next_35 : decode cX6_next 35 = .ok (.iload_n 2, 1) := by decide +kernel
theorem dX6_next_36 : decode cX6_next 36 = .ok (.aload_n 0, 1) := by decide +kernel
theorem dX6_next_37 : decode cX6_next 37 = .ok (.getfield 12, 3) := by decide +kernel
theorem dX6_next_40 : decode cX6_next 40 = .ok (.iload_n 2, 1) := by decide +kernel
theorem dX6_next_41 : decode cX6_next 41 = .ok (.invokevirtual 91, 3) := by decide +kernel
theorem dX6_next_44 : decode cX6_next 44 = .ok (.iadd, 1) := by decide +kernel
theorem dX6_next_45 : decode cX6_next 45 = .ok (.invokevirtual 88, 3) := by decide +kernel
theorem dX6_next_48 : decode cX6_next 48 = .ok (.ireturn, 1) := by decide +kernel
theorem dX6_setField_0 : decode cX6_setField 0 = .ok (.aload_n 0, 1) := by decide +kernel
theorem dX6_setField_1 : decode cX6_setField 1 = .ok (.iload_n 1, 1) := by decide +kernel
theorem dX6_setField_2 : decode cX6_setField 2 = .ok (.iload_n 2, 1) := by decide +kernel
theorem dX6_setField_3 : decode cX6_setField 3 = .ok (.invokevirtual 94, 3) := by decide +kernel
theorem dX6_setField_6 : decode cX6_setField 6 = .ok (.istore 4, 2) := by decide +kernel
theorem dX6_setField_8 : decode cX6_setField 8 = .ok (.iload 4, 2) := by decide +kernel
theorem dX6_setField_10 : decode cX6_setField 10 = .ok (.iconst (-1), 1) := by decide +kernel
theorem dX6_setField_11 : decode cX6_setField 11 = .ok (.if_icmp .eq 14, 3) := by decide +kernel
theorem dX6_setField_14 : decode cX6_setField 14 = .ok (.aload_n 0, 1) := by decide +kernel
theorem dX6_setField_15 : decode cX6_setField 15 = .ok (.getfield 12, 3) := by decide +kernel
theorem dX6_setField_18 : decode cX6_setField 18 = .ok (.iload_n 3, 1) := by decide +kernel
theorem dX6_setField_19 : decode cX6_setField 19 = .ok (.invokevirtual 97, 3) := by decide +kernel
theorem dX6_setField_22 : decode cX6_setField 22 = .ok (.ifCond .ne 6, 3) := by decide +kernel
theorem dX6_setField_25 : decode cX6_setField 25 = .ok (.ldc 63, 2) := by decide +kernel
theorem dX6_setField_27 : decode cX6_setField 27 = .ok (.ireturn, 1) := by decide +kernel
theorem dX6_setField_28 : decode cX6_setField 28 = .ok (.aload_n 0, 1) := by decide +kernel
theorem dX6_setField_29 : decode cX6_setField 29 = .ok (.getfield 12, 3) := by decide +kernel
theorem dX6_setField_32 : decode cX6_setField 32 = .ok (.getfield 101, 3) := by decide +kernel
theorem dX6_setField_35 : decode cX6_setField 35 = .ok (.iload 4, 2) := by decide +kernel
theorem dX6_setField_37 : decode cX6_setField 37 = .ok (.iload_n 3, 1) := by decide +kernel
theorem dX6_setField_38 : decode cX6_setField 38 = .ok (.invokestatic 105, 3) := by decide +kernel
theorem dX6_setField_41 : decode cX6_setField 41 = .ok (.ireturn, 1) := by decide +kernel
theorem dX6_field_0 : decode cX6_field 0 = .ok (.aload_n 0, 1) := by decide +kernel
theorem dX6_field_1 : decode cX6_field 1 = .ok (.iload_n 1, 1) := by decide +kernel
theorem dX6_field_2 : decode cX6_field 2 = .ok (.iload_n 2, 1) := by decide +kernel
theorem dX6_field_3 : decode cX6_field 3 = .ok (.invokevirtual 94, 3) := by decide +kernel
theorem dX6_field_6 : decode cX6_field 6 = .ok (.istore_n 3, 1) := by decide +kernel
theorem dX6_field_7 : decode cX6_field 7 = .ok (.iload_n 3, 1) := by decide +kernel
theorem dX6_field_8 : decode cX6_field 8 = .ok (.iconst (-1), 1) := by decide +kernel
theorem dX6_field_9 : decode cX6_field 9 = .ok (.if_icmp .ne 8, 3) := by decide +kernel
theorem dX6_field_12 : decode cX6_field 12 = .ok (.ldc 63, 2) := by decide +kernel
theorem dX6_field_14 : decode cX6_field 14 = .ok (.goto 12, 3) := by decide +kernel
theorem dX6_field_17 : decode cX6_field 17 = .ok (.aload_n 0, 1) := by decide +kernel
theorem dX6_field_18 : decode cX6_field 18 = .ok (.getfield 12, 3) := by decide +kernel
theorem dX6_field_21 : decode cX6_field 21 = .ok (.getfield 101, 3) := by decide +kernel
theorem dX6_field_24 : decode cX6_field 24 = .ok (.iload_n 3, 1) := by decide +kernel
theorem dX6_field_25 : decode cX6_field 25 = .ok (.iaload, 1) := by decide +kernel
theorem dX6_field_26 : decode cX6_field 26 = .ok (.ireturn, 1) := by decide +kernel
theorem dX6_setData_0 : decode cX6_setData 0 = .ok (.aload_n 0, 1) := by decide +kernel
theorem dX6_setData_1 : decode cX6_setData 1 = .ok (.iload_n 1, 1) := by decide +kernel
theorem dX6_setData_2 : decode cX6_setData 2 = .ok (.iload_n 2, 1) := by decide +kernel
theorem dX6_setData_3 : decode cX6_setData 3 = .ok (.invokevirtual 109, 3) := by decide +kernel
theorem dX6_setData_6 : decode cX6_setData 6 = .ok (.istore 4, 2) := by decide +kernel
theorem dX6_setData_8 : decode cX6_setData 8 = .ok (.iload 4, 2) := by decide +kernel
theorem dX6_setData_10 : decode cX6_setData 10 = .ok (.iconst (-1), 1) := by decide +kernel
theorem dX6_setData_11 : decode cX6_setData 11 = .ok (.if_icmp .eq 15, 3) := by decide +kernel
theorem dX6_setData_14 : decode cX6_setData 14 = .ok (.iload_n 3, 1) := by decide +kernel
theorem dX6_setData_15 : decode cX6_setData 15 = .ok (.ldc 112, 2) := by decide +kernel
theorem dX6_setData_17 : decode cX6_setData 17 = .ok (.if_icmp .lt 9, 3) := by decide +kernel
theorem dX6_setData_20 : decode cX6_setData 20 = .ok (.iload_n 3, 1) := by decide +kernel
theorem dX6_setData_21 : decode cX6_setData 21 = .ok (.ldc 113, 2) := by decide +kernel
theorem dX6_setData_23 : decode cX6_setData 23 = .ok (.if_icmp .le 6, 3) := by decide +kernel
theorem dX6_setData_26 : decode cX6_setData 26 = .ok (.ldc 63, 2) := by decide +kernel
theorem dX6_setData_28 : decode cX6_setData 28 = .ok (.ireturn, 1) := by decide +kernel
theorem dX6_setData_29 : decode cX6_setData 29 = .ok (.aload_n 0, 1) := by decide +kernel
theorem dX6_setData_30 : decode cX6_setData 30 = .ok (.getfield 12, 3) := by decide +kernel
theorem dX6_setData_33 : decode cX6_setData 33 = .ok (.getfield 101, 3) := by decide +kernel
theorem dX6_setData_36 : decode cX6_setData 36 = .ok (.iload 4, 2) := by decide +kernel
theorem dX6_setData_38 : decode cX6_setData 38 = .ok (.iload_n 3, 1) := by decide +kernel
theorem dX6_setData_39 : decode cX6_setData 39 = .ok (.invokestatic 105, 3) := by decide +kernel
theorem dX6_setData_42 : decode cX6_setData 42 = .ok (.ireturn, 1) := by decide +kernel
theorem dX6_data_0 : decode cX6_data 0 = .ok (.aload_n 0, 1) := by decide +kernel
theorem dX6_data_1 : decode cX6_data 1 = .ok (.iload_n 1, 1) := by decide +kernel
theorem dX6_data_2 : decode cX6_data 2 = .ok (.iload_n 2, 1) := by decide +kernel
theorem dX6_data_3 : decode cX6_data 3 = .ok (.invokevirtual 109, 3) := by decide +kernel
theorem dX6_data_6 : decode cX6_data 6 = .ok (.istore_n 3, 1) := by decide +kernel
theorem dX6_data_7 : decode cX6_data 7 = .ok (.iload_n 3, 1) := by decide +kernel
theorem dX6_data_8 : decode cX6_data 8 = .ok (.iconst (-1), 1) := by decide +kernel
theorem dX6_data_9 : decode cX6_data 9 = .ok (.if_icmp .ne 8, 3) := by decide +kernel
theorem dX6_data_12 : decode cX6_data 12 = .ok (.ldc 63, 2) := by decide +kernel
theorem dX6_data_14 : decode cX6_data 14 = .ok (.goto 12, 3) := by decide +kernel
theorem dX6_data_17 : decode cX6_data 17 = .ok (.aload_n 0, 1) := by decide +kernel
theorem dX6_data_18 : decode cX6_data 18 = .ok (.getfield 12, 3) := by decide +kernel
theorem dX6_data_21 : decode cX6_data 21 = .ok (.getfield 101, 3) := by decide +kernel
theorem dX6_data_24 : decode cX6_data 24 = .ok (.iload_n 3, 1) := by decide +kernel
theorem dX6_data_25 : decode cX6_data 25 = .ok (.iaload, 1) := by decide +kernel
theorem dX6_data_26 : decode cX6_data 26 = .ok (.ireturn, 1) := by decide +kernel
theorem dX6_pin_0 : decode cX6_pin 0 = .ok (.aload_n 0, 1) := by decide +kernel
theorem dX6_pin_1 : decode cX6_pin 1 = .ok (.getfield 12, 3) := by decide +kernel
theorem dX6_pin_4 : decode cX6_pin 4 = .ok (.iload_n 1, 1) := by decide +kernel
theorem dX6_pin_5 : decode cX6_pin 5 = .ok (.invokevirtual 73, 3) := by decide +kernel
theorem dX6_pin_8 : decode cX6_pin 8 = .ok (.istore_n 3, 1) := by decide +kernel
theorem dX6_pin_9 : decode cX6_pin 9 = .ok (.iload_n 3, 1) := by decide +kernel
theorem dX6_pin_10 : decode cX6_pin 10 = .ok (.iconst (-1), 1) := by decide +kernel
theorem dX6_pin_11 : decode cX6_pin 11 = .ok (.if_icmp .ne 6, 3) := by decide +kernel
theorem dX6_pin_14 : decode cX6_pin 14 = .ok (.ldc 63, 2) := by decide +kernel
theorem dX6_pin_16 : decode cX6_pin 16 = .ok (.ireturn, 1) := by decide +kernel
theorem dX6_pin_17 : decode cX6_pin 17 = .ok (.iload_n 2, 1) := by decide +kernel
theorem dX6_pin_18 : decode cX6_pin 18 = .ok (.ifCond .eq 7, 3) := by decide +kernel
theorem dX6_pin_21 : decode cX6_pin 21 = .ok (.iconst 1, 1) := by decide +kernel
theorem dX6_pin_22 : decode cX6_pin 22 = .ok (.goto 4, 3) := by decide +kernel
theorem dX6_pin_25 : decode cX6_pin 25 = .ok (.iconst 0, 1) := by decide +kernel
theorem dX6_pin_26 : decode cX6_pin 26 = .ok (.istore 4, 2) := by decide +kernel
theorem dX6_pin_28 : decode cX6_pin 28 = .ok (.aload_n 0, 1) := by decide +kernel
theorem dX6_pin_29 : decode cX6_pin 29 = .ok (.getfield 12, 3) := by decide +kernel
theorem dX6_pin_32 : decode cX6_pin 32 = .ok (.getfield 114, 3) := by decide +kernel
theorem dX6_pin_35 : decode cX6_pin 35 = .ok (.iload_n 3, 1) := by decide +kernel
theorem dX6_pin_36 : decode cX6_pin 36 = .ok (.iaload, 1) := by decide +kernel
theorem dX6_pin_37 : decode cX6_pin 37 = .ok (.iload 4, 2) := by decide +kernel
theorem dX6_pin_39 : decode cX6_pin 39 = .ok (.if_icmp .ne 6, 3) := by decide +kernel
theorem dX6_pin_42 : decode cX6_pin 42 = .ok (.ldc 117, 2) := by decide +kernel
theorem dX6_pin_44 : decode cX6_pin 44 = .ok (.ireturn, 1) := by decide +kernel
theorem dX6_pin_45 : decode cX6_pin 45 = .ok (.aload_n 0, 1) := by decide +kernel
theorem dX6_pin_46 : decode cX6_pin 46 = .ok (.getfield 12, 3) := by decide +kernel
theorem dX6_pin_49 : decode cX6_pin 49 = .ok (.getfield 114, 3) := by decide +kernel
theorem dX6_pin_52 : decode cX6_pin 52 = .ok (.iload_n 3, 1) := by decide +kernel
theorem dX6_pin_53 : decode cX6_pin 53 = .ok (.iload 4, 2) := by decide +kernel
theorem dX6_pin_55 : decode cX6_pin 55 = .ok (.iastore, 1) := by decide +kernel
theorem dX6_pin_56 : decode cX6_pin 56 = .ok (.aload_n 0, 1) := by decide +kernel
theorem dX6_pin_57 : decode cX6_pin 57 = .ok (.getfield 12, 3) := by decide +kernel
theorem dX6_pin_60 : decode cX6_pin 60 = .ok (.invokevirtual 118, 3) := by decide +kernel
theorem dX6_pin_63 : decode cX6_pin 63 = .ok (.ireturn, 1) := by decide +kernel
theorem dX6_setRoot_0 : decode cX6_setRoot 0 = .ok (.iload_n 1, 1) := by decide +kernel
theorem dX6_setRoot_1 : decode cX6_setRoot 1 = .ok (.ifCond .lt 20, 3) := by decide +kernel
theorem dX6_setRoot_4 : decode cX6_setRoot 4 = .ok (.iload_n 1, 1) := by decide +kernel
theorem dX6_setRoot_5 : decode cX6_setRoot 5 = .ok (.bipush 6, 2) := by decide +kernel
theorem dX6_setRoot_7 : decode cX6_setRoot 7 = .ok (.if_icmp .ge 14, 3) := by decide +kernel
theorem dX6_setRoot_10 : decode cX6_setRoot 10 = .ok (.aload_n 0, 1) := by decide +kernel
theorem dX6_setRoot_11 : decode cX6_setRoot 11 = .ok (.getfield 12, 3) := by decide +kernel
theorem dX6_setRoot_14 : decode cX6_setRoot 14 = .ok (.iload_n 2, 1) := by decide +kernel
theorem dX6_setRoot_15 : decode cX6_setRoot 15 = .ok (.invokevirtual 97, 3) := by decide +kernel
theorem dX6_setRoot_18 : decode cX6_setRoot 18 = .ok (.ifCond .ne 6, 3) := by decide +kernel
theorem dX6_setRoot_21 : decode cX6_setRoot 21 = .ok (.ldc 63, 2) := by decide +kernel
theorem dX6_setRoot_23 : decode cX6_setRoot 23 = .ok (.ireturn, 1) := by decide +kernel
theorem dX6_setRoot_24 : decode cX6_setRoot 24 = .ok (.aload_n 0, 1) := by decide +kernel
theorem dX6_setRoot_25 : decode cX6_setRoot 25 = .ok (.getfield 12, 3) := by decide +kernel
theorem dX6_setRoot_28 : decode cX6_setRoot 28 = .ok (.getfield 122, 3) := by decide +kernel
theorem dX6_setRoot_31 : decode cX6_setRoot 31 = .ok (.iload_n 1, 1) := by decide +kernel
theorem dX6_setRoot_32 : decode cX6_setRoot 32 = .ok (.iload_n 2, 1) := by decide +kernel
theorem dX6_setRoot_33 : decode cX6_setRoot 33 = .ok (.invokestatic 105, 3) := by decide +kernel
theorem dX6_setRoot_36 : decode cX6_setRoot 36 = .ok (.ireturn, 1) := by decide +kernel
theorem dX6_root_0 : decode cX6_root 0 = .ok (.iload_n 1, 1) := by decide +kernel
theorem dX6_root_1 : decode cX6_root 1 = .ok (.ifCond .lt 9, 3) := by decide +kernel
theorem dX6_root_4 : decode cX6_root 4 = .ok (.iload_n 1, 1) := by decide +kernel
theorem dX6_root_5 : decode cX6_root 5 = .ok (.bipush 6, 2) := by decide +kernel
theorem dX6_root_7 : decode cX6_root 7 = .ok (.if_icmp .lt 8, 3) := by decide +kernel
theorem dX6_root_10 : decode cX6_root 10 = .ok (.ldc 63, 2) := by decide +kernel
theorem dX6_root_12 : decode cX6_root 12 = .ok (.goto 12, 3) := by decide +kernel
theorem dX6_root_15 : decode cX6_root 15 = .ok (.aload_n 0, 1) := by decide +kernel
theorem dX6_root_16 : decode cX6_root 16 = .ok (.getfield 12, 3) := by decide +kernel
theorem dX6_root_19 : decode cX6_root 19 = .ok (.getfield 122, 3) := by decide +kernel
theorem dX6_root_22 : decode cX6_root 22 = .ok (.iload_n 1, 1) := by decide +kernel
theorem dX6_root_23 : decode cX6_root 23 = .ok (.iaload, 1) := by decide +kernel
theorem dX6_root_24 : decode cX6_root 24 = .ok (.ireturn, 1) := by decide +kernel
theorem dX6_setWeak_0 : decode cX6_setWeak 0 = .ok (.iload_n 1, 1) := by decide +kernel
theorem dX6_setWeak_1 : decode cX6_setWeak 1 = .ok (.ifCond .lt 19, 3) := by decide +kernel
theorem dX6_setWeak_4 : decode cX6_setWeak 4 = .ok (.iload_n 1, 1) := by decide +kernel
theorem dX6_setWeak_5 : decode cX6_setWeak 5 = .ok (.iconst 4, 1) := by decide +kernel
theorem dX6_setWeak_6 : decode cX6_setWeak 6 = .ok (.if_icmp .ge 14, 3) := by decide +kernel
theorem dX6_setWeak_9 : decode cX6_setWeak 9 = .ok (.aload_n 0, 1) := by decide +kernel
theorem dX6_setWeak_10 : decode cX6_setWeak 10 = .ok (.getfield 12, 3) := by decide +kernel
theorem dX6_setWeak_13 : decode cX6_setWeak 13 = .ok (.iload_n 2, 1) := by decide +kernel
theorem dX6_setWeak_14 : decode cX6_setWeak 14 = .ok (.invokevirtual 97, 3) := by decide +kernel
theorem dX6_setWeak_17 : decode cX6_setWeak 17 = .ok (.ifCond .ne 6, 3) := by decide +kernel
theorem dX6_setWeak_20 : decode cX6_setWeak 20 = .ok (.ldc 63, 2) := by decide +kernel
theorem dX6_setWeak_22 : decode cX6_setWeak 22 = .ok (.ireturn, 1) := by decide +kernel
theorem dX6_setWeak_23 : decode cX6_setWeak 23 = .ok (.aload_n 0, 1) := by decide +kernel
theorem dX6_setWeak_24 : decode cX6_setWeak 24 = .ok (.getfield 12, 3) := by decide +kernel
theorem dX6_setWeak_27 : decode cX6_setWeak 27 = .ok (.getfield 125, 3) := by decide +kernel
theorem dX6_setWeak_30 : decode cX6_setWeak 30 = .ok (.iload_n 1, 1) := by decide +kernel
theorem dX6_setWeak_31 : decode cX6_setWeak 31 = .ok (.iload_n 2, 1) := by decide +kernel
theorem dX6_setWeak_32 : decode cX6_setWeak 32 = .ok (.invokestatic 105, 3) := by decide +kernel
theorem dX6_setWeak_35 : decode cX6_setWeak 35 = .ok (.ireturn, 1) := by decide +kernel
theorem dX6_weak_0 : decode cX6_weak 0 = .ok (.iload_n 1, 1) := by decide +kernel
theorem dX6_weak_1 : decode cX6_weak 1 = .ok (.ifCond .lt 8, 3) := by decide +kernel
theorem dX6_weak_4 : decode cX6_weak 4 = .ok (.iload_n 1, 1) := by decide +kernel
theorem dX6_weak_5 : decode cX6_weak 5 = .ok (.iconst 4, 1) := by decide +kernel
theorem dX6_weak_6 : decode cX6_weak 6 = .ok (.if_icmp .lt 8, 3) := by decide +kernel
theorem dX6_weak_9 : decode cX6_weak 9 = .ok (.ldc 63, 2) := by decide +kernel
theorem dX6_weak_11 : decode cX6_weak 11 = .ok (.goto 12, 3) := by decide +kernel
theorem dX6_weak_14 : decode cX6_weak 14 = .ok (.aload_n 0, 1) := by decide +kernel
theorem dX6_weak_15 : decode cX6_weak 15 = .ok (.getfield 12, 3) := by decide +kernel
theorem dX6_weak_18 : decode cX6_weak 18 = .ok (.getfield 125, 3) := by decide +kernel
theorem dX6_weak_21 : decode cX6_weak 21 = .ok (.iload_n 1, 1) := by decide +kernel
theorem dX6_weak_22 : decode cX6_weak 22 = .ok (.iaload, 1) := by decide +kernel
theorem dX6_weak_23 : decode cX6_weak 23 = .ok (.ireturn, 1) := by decide +kernel
theorem dX6_collect_0 : decode cX6_collect 0 = .ok (.aload_n 0, 1) := by decide +kernel
theorem dX6_collect_1 : decode cX6_collect 1 = .ok (.getfield 12, 3) := by decide +kernel
theorem dX6_collect_4 : decode cX6_collect 4 = .ok (.invokevirtual 128, 3) := by decide +kernel
theorem dX6_collect_7 : decode cX6_collect 7 = .ok (.istore_n 1, 1) := by decide +kernel
theorem dX6_collect_8 : decode cX6_collect 8 = .ok (.aload_n 0, 1) := by decide +kernel
theorem dX6_collect_9 : decode cX6_collect 9 = .ok (.getfield 27, 3) := by decide +kernel
theorem dX6_collect_12 : decode cX6_collect 12 = .ok (.aload_n 0, 1) := by decide +kernel
theorem dX6_collect_13 : decode cX6_collect 13 = .ok (.getfield 12, 3) := by decide +kernel
theorem dX6_collect_16 : decode cX6_collect 16 = .ok (.invokevirtual 131, 3) := by decide +kernel
theorem dX6_collect_19 : decode cX6_collect 19 = .ok (.aload_n 0, 1) := by decide +kernel
theorem dX6_collect_20 : decode cX6_collect 20 = .ok (.getfield 27, 3) := by decide +kernel
theorem dX6_collect_23 : decode cX6_collect 23 = .ok (.aload_n 0, 1) := by decide +kernel
theorem dX6_collect_24 : decode cX6_collect 24 = .ok (.getfield 12, 3) := by decide +kernel
theorem dX6_collect_27 : decode cX6_collect 27 = .ok (.invokevirtual 134, 3) := by decide +kernel
theorem dX6_collect_30 : decode cX6_collect 30 = .ok (.aload_n 0, 1) := by decide +kernel
theorem dX6_collect_31 : decode cX6_collect 31 = .ok (.getfield 27, 3) := by decide +kernel
theorem dX6_collect_34 : decode cX6_collect 34 = .ok (.aload_n 0, 1) := by decide +kernel
theorem dX6_collect_35 : decode cX6_collect 35 = .ok (.getfield 12, 3) := by decide +kernel
theorem dX6_collect_38 : decode cX6_collect 38 = .ok (.invokevirtual 137, 3) := by decide +kernel
theorem dX6_collect_41 : decode cX6_collect 41 = .ok (.aload_n 0, 1) := by decide +kernel
theorem dX6_collect_42 : decode cX6_collect 42 = .ok (.getfield 27, 3) := by decide +kernel
theorem dX6_collect_45 : decode cX6_collect 45 = .ok (.aload_n 0, 1) := by decide +kernel
theorem dX6_collect_46 : decode cX6_collect 46 = .ok (.getfield 12, 3) := by decide +kernel
theorem dX6_collect_49 : decode cX6_collect 49 = .ok (.invokevirtual 140, 3) := by decide +kernel
theorem dX6_collect_52 : decode cX6_collect 52 = .ok (.iload_n 1, 1) := by decide +kernel
theorem dX6_collect_53 : decode cX6_collect 53 = .ok (.aload_n 0, 1) := by decide +kernel
theorem dX6_collect_54 : decode cX6_collect 54 = .ok (.getfield 12, 3) := by decide +kernel
theorem dX6_collect_57 : decode cX6_collect 57 = .ok (.invokevirtual 128, 3) := by decide +kernel
theorem dX6_collect_60 : decode cX6_collect 60 = .ok (.isub, 1) := by decide +kernel
theorem dX6_collect_61 : decode cX6_collect 61 = .ok (.istore_n 2, 1) := by decide +kernel
theorem dX6_collect_62 : decode cX6_collect 62 = .ok (.aload_n 0, 1) := by decide +kernel
theorem dX6_collect_63 : decode cX6_collect 63 = .ok (.getfield 12, 3) := by decide +kernel
theorem dX6_collect_66 : decode cX6_collect 66 = .ok (.dup, 1) := by decide +kernel
theorem dX6_collect_67 : decode cX6_collect 67 = .ok (.getfield 143, 3) := by decide +kernel
theorem dX6_collect_70 : decode cX6_collect 70 = .ok (.iconst 1, 1) := by decide +kernel
theorem dX6_collect_71 : decode cX6_collect 71 = .ok (.iadd, 1) := by decide +kernel
theorem dX6_collect_72 : decode cX6_collect 72 = .ok (.putfield 143, 3) := by decide +kernel
theorem dX6_collect_75 : decode cX6_collect 75 = .ok (.aload_n 0, 1) := by decide +kernel
theorem dX6_collect_76 : decode cX6_collect 76 = .ok (.getfield 12, 3) := by decide +kernel
theorem dX6_collect_79 : decode cX6_collect 79 = .ok (.dup, 1) := by decide +kernel
theorem dX6_collect_80 : decode cX6_collect 80 = .ok (.getfield 146, 3) := by decide +kernel
theorem dX6_collect_83 : decode cX6_collect 83 = .ok (.iload_n 2, 1) := by decide +kernel
theorem dX6_collect_84 : decode cX6_collect 84 = .ok (.iadd, 1) := by decide +kernel
theorem dX6_collect_85 : decode cX6_collect 85 = .ok (.putfield 146, 3) := by decide +kernel
theorem dX6_collect_88 : decode cX6_collect 88 = .ok (.iload_n 2, 1) := by decide +kernel
theorem dX6_collect_89 : decode cX6_collect 89 = .ok (.ireturn, 1) := by decide +kernel
theorem dX6_moved_0 : decode cX6_moved 0 = .ok (.aload_n 0, 1) := by decide +kernel
theorem dX6_moved_1 : decode cX6_moved 1 = .ok (.getfield 12, 3) := by decide +kernel
theorem dX6_moved_4 : decode cX6_moved 4 = .ok (.iload_n 1, 1) := by decide +kernel
theorem dX6_moved_5 : decode cX6_moved 5 = .ok (.invokevirtual 149, 3) := by decide +kernel
theorem dX6_moved_8 : decode cX6_moved 8 = .ok (.ifCond .ne 6, 3) := by decide +kernel
theorem dX6_moved_11 : decode cX6_moved 11 = .ok (.ldc 63, 2) := by decide +kernel
theorem dX6_moved_13 : decode cX6_moved 13 = .ok (.ireturn, 1) := by decide +kernel
theorem dX6_moved_14 : decode cX6_moved 14 = .ok (.aload_n 0, 1) := by decide +kernel
theorem dX6_moved_15 : decode cX6_moved 15 = .ok (.getfield 12, 3) := by decide +kernel
theorem dX6_moved_18 : decode cX6_moved 18 = .ok (.getfield 143, 3) := by decide +kernel
theorem dX6_moved_21 : decode cX6_moved 21 = .ok (.ifCond .ne 8, 3) := by decide +kernel
theorem dX6_moved_24 : decode cX6_moved 24 = .ok (.ldc 117, 2) := by decide +kernel
theorem dX6_moved_26 : decode cX6_moved 26 = .ok (.goto 12, 3) := by decide +kernel
theorem dX6_moved_29 : decode cX6_moved 29 = .ok (.aload_n 0, 1) := by decide +kernel
theorem dX6_moved_30 : decode cX6_moved 30 = .ok (.getfield 12, 3) := by decide +kernel
theorem dX6_moved_33 : decode cX6_moved 33 = .ok (.getfield 152, 3) := by decide +kernel
theorem dX6_moved_36 : decode cX6_moved 36 = .ok (.iload_n 1, 1) := by decide +kernel
theorem dX6_moved_37 : decode cX6_moved 37 = .ok (.iaload, 1) := by decide +kernel
theorem dX6_moved_38 : decode cX6_moved 38 = .ok (.ireturn, 1) := by decide +kernel
theorem dX6_report_0 : decode cX6_report 0 = .ok (.iload_n 1, 1) := by decide +kernel
theorem dX6_report_1 : decode cX6_report 1 = .ok (.ifCond .lt 9, 3) := by decide +kernel
theorem dX6_report_4 : decode cX6_report 4 = .ok (.iload_n 1, 1) := by decide +kernel
theorem dX6_report_5 : decode cX6_report 5 = .ok (.bipush 6, 2) := by decide +kernel
theorem dX6_report_7 : decode cX6_report 7 = .ok (.if_icmp .lt 6, 3) := by decide +kernel
theorem dX6_report_10 : decode cX6_report 10 = .ok (.ldc 63, 2) := by decide +kernel
theorem dX6_report_12 : decode cX6_report 12 = .ok (.ireturn, 1) := by decide +kernel
theorem dX6_report_13 : decode cX6_report 13 = .ok (.aload_n 0, 1) := by decide +kernel
theorem dX6_report_14 : decode cX6_report 14 = .ok (.getfield 12, 3) := by decide +kernel
theorem dX6_report_17 : decode cX6_report 17 = .ok (.getfield 143, 3) := by decide +kernel
theorem dX6_report_20 : decode cX6_report 20 = .ok (.ifCond .ne 8, 3) := by decide +kernel
theorem dX6_report_23 : decode cX6_report 23 = .ok (.ldc 117, 2) := by decide +kernel
theorem dX6_report_25 : decode cX6_report 25 = .ok (.goto 12, 3) := by decide +kernel
theorem dX6_report_28 : decode cX6_report 28 = .ok (.aload_n 0, 1) := by decide +kernel
theorem dX6_report_29 : decode cX6_report 29 = .ok (.getfield 12, 3) := by decide +kernel
theorem dX6_report_32 : decode cX6_report 32 = .ok (.getfield 155, 3) := by decide +kernel
theorem dX6_report_35 : decode cX6_report 35 = .ok (.iload_n 1, 1) := by decide +kernel
theorem dX6_report_36 : decode cX6_report 36 = .ok (.iaload, 1) := by decide +kernel
theorem dX6_report_37 : decode cX6_report 37 = .ok (.ireturn, 1) := by decide +kernel
theorem dX6_garbage_0 : decode cX6_garbage 0 = .ok (.aload_n 0, 1) := by decide +kernel
theorem dX6_garbage_1 : decode cX6_garbage 1 = .ok (.getfield 34, 3) := by decide +kernel
theorem dX6_garbage_4 : decode cX6_garbage 4 = .ok (.aload_n 0, 1) := by decide +kernel
theorem dX6_garbage_5 : decode cX6_garbage 5 = .ok (.getfield 12, 3) := by decide +kernel
theorem dX6_garbage_8 : decode cX6_garbage 8 = .ok (.iconst (-1), 1) := by decide +kernel
theorem dX6_garbage_9 : decode cX6_garbage 9 = .ok (.invokevirtual 80, 3) := by decide +kernel
theorem dX6_garbage_12 : decode cX6_garbage 12 = .ok (.aload_n 0, 1) := by decide +kernel
theorem dX6_garbage_13 : decode cX6_garbage 13 = .ok (.getfield 12, 3) := by decide +kernel
theorem dX6_garbage_16 : decode cX6_garbage 16 = .ok (.invokevirtual 128, 3) := by decide +kernel
theorem dX6_garbage_19 : decode cX6_garbage 19 = .ok (.aload_n 0, 1) := by decide +kernel
theorem dX6_garbage_20 : decode cX6_garbage 20 = .ok (.getfield 34, 3) := by decide +kernel
theorem dX6_garbage_23 : decode cX6_garbage 23 = .ok (.aload_n 0, 1) := by decide +kernel
theorem dX6_garbage_24 : decode cX6_garbage 24 = .ok (.getfield 12, 3) := by decide +kernel
theorem dX6_garbage_27 : decode cX6_garbage 27 = .ok (.invokevirtual 158, 3) := by decide +kernel
theorem dX6_garbage_30 : decode cX6_garbage 30 = .ok (.isub, 1) := by decide +kernel
theorem dX6_garbage_31 : decode cX6_garbage 31 = .ok (.ireturn, 1) := by decide +kernel
theorem dX6_distance_0 : decode cX6_distance 0 = .ok (.aload_n 0, 1) := by decide +kernel
theorem dX6_distance_1 : decode cX6_distance 1 = .ok (.getfield 12, 3) := by decide +kernel
theorem dX6_distance_4 : decode cX6_distance 4 = .ok (.iload_n 1, 1) := by decide +kernel
theorem dX6_distance_5 : decode cX6_distance 5 = .ok (.invokevirtual 73, 3) := by decide +kernel
theorem dX6_distance_8 : decode cX6_distance 8 = .ok (.istore_n 2, 1) := by decide +kernel
theorem dX6_distance_9 : decode cX6_distance 9 = .ok (.iload_n 2, 1) := by decide +kernel
theorem dX6_distance_10 : decode cX6_distance 10 = .ok (.iconst (-1), 1) := by decide +kernel
theorem dX6_distance_11 : decode cX6_distance 11 = .ok (.if_icmp .ne 6, 3) := by decide +kernel
theorem dX6_distance_14 : decode cX6_distance 14 = .ok (.ldc 63, 2) := by decide +kernel
theorem dX6_distance_16 : decode cX6_distance 16 = .ok (.ireturn, 1) := by decide +kernel
theorem dX6_distance_17 : decode cX6_distance 17 = .ok (.aload_n 0, 1) := by decide +kernel
theorem dX6_distance_18 : decode cX6_distance 18 = .ok (.getfield 34, 3) := by decide +kernel
theorem dX6_distance_21 : decode cX6_distance 21 = .ok (.aload_n 0, 1) := by decide +kernel
theorem dX6_distance_22 : decode cX6_distance 22 = .ok (.getfield 12, 3) := by decide +kernel
theorem dX6_distance_25 : decode cX6_distance 25 = .ok (.iconst (-1), 1) := by decide +kernel
theorem dX6_distance_26 : decode cX6_distance 26 = .ok (.invokevirtual 80, 3) := by decide +kernel
theorem dX6_distance_29 : decode cX6_distance 29 = .ok (.aload_n 0, 1) := by decide +kernel
theorem dX6_distance_30 : decode cX6_distance 30 = .ok (.getfield 34, 3) := by decide +kernel
theorem dX6_distance_33 : decode cX6_distance 33 = .ok (.getfield 162, 3) := by decide +kernel
theorem dX6_distance_36 : decode cX6_distance 36 = .ok (.iload_n 2, 1) := by decide +kernel
theorem dX6_distance_37 : decode cX6_distance 37 = .ok (.iaload, 1) := by decide +kernel
theorem dX6_distance_38 : decode cX6_distance 38 = .ok (.ireturn, 1) := by decide +kernel
theorem dX6_retained_0 : decode cX6_retained 0 = .ok (.aload_n 0, 1) := by decide +kernel
theorem dX6_retained_1 : decode cX6_retained 1 = .ok (.getfield 12, 3) := by decide +kernel
theorem dX6_retained_4 : decode cX6_retained 4 = .ok (.iload_n 1, 1) := by decide +kernel
theorem dX6_retained_5 : decode cX6_retained 5 = .ok (.invokevirtual 73, 3) := by decide +kernel
theorem dX6_retained_8 : decode cX6_retained 8 = .ok (.istore_n 2, 1) := by decide +kernel
theorem dX6_retained_9 : decode cX6_retained 9 = .ok (.iload_n 2, 1) := by decide +kernel
theorem dX6_retained_10 : decode cX6_retained 10 = .ok (.iconst (-1), 1) := by decide +kernel
theorem dX6_retained_11 : decode cX6_retained 11 = .ok (.if_icmp .ne 6, 3) := by decide +kernel
theorem dX6_retained_14 : decode cX6_retained 14 = .ok (.ldc 63, 2) := by decide +kernel
theorem dX6_retained_16 : decode cX6_retained 16 = .ok (.ireturn, 1) := by decide +kernel
theorem dX6_retained_17 : decode cX6_retained 17 = .ok (.aload_n 0, 1) := by decide +kernel
theorem dX6_retained_18 : decode cX6_retained 18 = .ok (.getfield 34, 3) := by decide +kernel
theorem dX6_retained_21 : decode cX6_retained 21 = .ok (.aload_n 0, 1) := by decide +kernel
theorem dX6_retained_22 : decode cX6_retained 22 = .ok (.getfield 12, 3) := by decide +kernel
theorem dX6_retained_25 : decode cX6_retained 25 = .ok (.iconst (-1), 1) := by decide +kernel
theorem dX6_retained_26 : decode cX6_retained 26 = .ok (.invokevirtual 80, 3) := by decide +kernel
theorem dX6_retained_29 : decode cX6_retained 29 = .ok (.aload_n 0, 1) := by decide +kernel
theorem dX6_retained_30 : decode cX6_retained 30 = .ok (.getfield 34, 3) := by decide +kernel
theorem dX6_retained_33 : decode cX6_retained 33 = .ok (.aload_n 0, 1) := by decide +kernel
theorem dX6_retained_34 : decode cX6_retained 34 = .ok (.getfield 12, 3) := by decide +kernel
theorem dX6_retained_37 : decode cX6_retained 37 = .ok (.invokevirtual 158, 3) := by decide +kernel
theorem dX6_retained_40 : decode cX6_retained 40 = .ok (.istore_n 3, 1) := by decide +kernel
theorem dX6_retained_41 : decode cX6_retained 41 = .ok (.aload_n 0, 1) := by decide +kernel
theorem dX6_retained_42 : decode cX6_retained 42 = .ok (.getfield 34, 3) := by decide +kernel
theorem dX6_retained_45 : decode cX6_retained 45 = .ok (.aload_n 0, 1) := by decide +kernel
theorem dX6_retained_46 : decode cX6_retained 46 = .ok (.getfield 12, 3) := by decide +kernel
theorem dX6_retained_49 : decode cX6_retained 49 = .ok (.iload_n 2, 1) := by decide +kernel
theorem dX6_retained_50 : decode cX6_retained 50 = .ok (.invokevirtual 80, 3) := by decide +kernel
theorem dX6_retained_53 : decode cX6_retained 53 = .ok (.iload_n 3, 1) := by decide +kernel
theorem dX6_retained_54 : decode cX6_retained 54 = .ok (.aload_n 0, 1) := by decide +kernel
theorem dX6_retained_55 : decode cX6_retained 55 = .ok (.getfield 34, 3) := by decide +kernel
theorem dX6_retained_58 : decode cX6_retained 58 = .ok (.aload_n 0, 1) := by decide +kernel
theorem dX6_retained_59 : decode cX6_retained 59 = .ok (.getfield 12, 3) := by decide +kernel
theorem dX6_retained_62 : decode cX6_retained 62 = .ok (.invokevirtual 158, 3) := by decide +kernel
theorem dX6_retained_65 : decode cX6_retained 65 = .ok (.isub, 1) := by decide +kernel
theorem dX6_retained_66 : decode cX6_retained 66 = .ok (.ireturn, 1) := by decide +kernel
theorem dX6_free_0 : decode cX6_free 0 = .ok (.iload_n 1, 1) := by decide +kernel
theorem dX6_free_1 : decode cX6_free 1 = .ok (.ifCond .lt 8, 3) := by decide +kernel
theorem dX6_free_4 : decode cX6_free 4 = .ok (.iload_n 1, 1) := by decide +kernel
theorem dX6_free_5 : decode cX6_free 5 = .ok (.iconst 5, 1) := by decide +kernel
theorem dX6_free_6 : decode cX6_free 6 = .ok (.if_icmp .lt 6, 3) := by decide +kernel
theorem dX6_free_9 : decode cX6_free 9 = .ok (.ldc 63, 2) := by decide +kernel
theorem dX6_free_11 : decode cX6_free 11 = .ok (.ireturn, 1) := by decide +kernel
theorem dX6_free_12 : decode cX6_free 12 = .ok (.aload_n 0, 1) := by decide +kernel
theorem dX6_free_13 : decode cX6_free 13 = .ok (.getfield 48, 3) := by decide +kernel
theorem dX6_free_16 : decode cX6_free 16 = .ok (.aload_n 0, 1) := by decide +kernel
theorem dX6_free_17 : decode cX6_free 17 = .ok (.getfield 12, 3) := by decide +kernel
theorem dX6_free_20 : decode cX6_free 20 = .ok (.invokevirtual 165, 3) := by decide +kernel
theorem dX6_free_23 : decode cX6_free 23 = .ok (.aload_n 0, 1) := by decide +kernel
theorem dX6_free_24 : decode cX6_free 24 = .ok (.getfield 48, 3) := by decide +kernel
theorem dX6_free_27 : decode cX6_free 27 = .ok (.getfield 168, 3) := by decide +kernel
theorem dX6_free_30 : decode cX6_free 30 = .ok (.iload_n 1, 1) := by decide +kernel
theorem dX6_free_31 : decode cX6_free 31 = .ok (.iaload, 1) := by decide +kernel
theorem dX6_free_32 : decode cX6_free 32 = .ok (.ireturn, 1) := by decide +kernel
theorem dX6_type_0 : decode cX6_type 0 = .ok (.iload_n 1, 1) := by decide +kernel
theorem dX6_type_1 : decode cX6_type 1 = .ok (.ifCond .lt 9, 3) := by decide +kernel
theorem dX6_type_4 : decode cX6_type 4 = .ok (.iload_n 1, 1) := by decide +kernel
theorem dX6_type_5 : decode cX6_type 5 = .ok (.bipush 127, 2) := by decide +kernel
theorem dX6_type_7 : decode cX6_type 7 = .ok (.if_icmp .le 6, 3) := by decide +kernel
theorem dX6_type_10 : decode cX6_type 10 = .ok (.ldc 63, 2) := by decide +kernel
theorem dX6_type_12 : decode cX6_type 12 = .ok (.ireturn, 1) := by decide +kernel
theorem dX6_type_13 : decode cX6_type 13 = .ok (.aload_n 0, 1) := by decide +kernel
theorem dX6_type_14 : decode cX6_type 14 = .ok (.getfield 55, 3) := by decide +kernel
theorem dX6_type_17 : decode cX6_type 17 = .ok (.getfield 171, 3) := by decide +kernel
theorem dX6_type_20 : decode cX6_type 20 = .ok (.bipush 80, 2) := by decide +kernel
theorem dX6_type_22 : decode cX6_type 22 = .ok (.if_icmp .lt 6, 3) := by decide +kernel
theorem dX6_type_25 : decode cX6_type 25 = .ok (.ldc 68, 2) := by decide +kernel
theorem dX6_type_27 : decode cX6_type 27 = .ok (.ireturn, 1) := by decide +kernel
theorem dX6_type_28 : decode cX6_type 28 = .ok (.aload_n 0, 1) := by decide +kernel
theorem dX6_type_29 : decode cX6_type 29 = .ok (.getfield 55, 3) := by decide +kernel
theorem dX6_type_32 : decode cX6_type 32 = .ok (.getfield 174, 3) := by decide +kernel
theorem dX6_type_35 : decode cX6_type 35 = .ok (.aload_n 0, 1) := by decide +kernel
theorem dX6_type_36 : decode cX6_type 36 = .ok (.getfield 55, 3) := by decide +kernel
theorem dX6_type_39 : decode cX6_type 39 = .ok (.getfield 171, 3) := by decide +kernel
theorem dX6_type_42 : decode cX6_type 42 = .ok (.iload_n 1, 1) := by decide +kernel
theorem dX6_type_43 : decode cX6_type 43 = .ok (.iastore, 1) := by decide +kernel
theorem dX6_type_44 : decode cX6_type 44 = .ok (.aload_n 0, 1) := by decide +kernel
theorem dX6_type_45 : decode cX6_type 45 = .ok (.getfield 55, 3) := by decide +kernel
theorem dX6_type_48 : decode cX6_type 48 = .ok (.dup, 1) := by decide +kernel
theorem dX6_type_49 : decode cX6_type 49 = .ok (.getfield 171, 3) := by decide +kernel
theorem dX6_type_52 : decode cX6_type 52 = .ok (.iconst 1, 1) := by decide +kernel
theorem dX6_type_53 : decode cX6_type 53 = .ok (.iadd, 1) := by decide +kernel
theorem dX6_type_54 : decode cX6_type 54 = .ok (.putfield 171, 3) := by decide +kernel
theorem dX6_type_57 : decode cX6_type 57 = .ok (.aload_n 0, 1) := by decide +kernel
theorem dX6_type_58 : decode cX6_type 58 = .ok (.getfield 55, 3) := by decide +kernel
theorem dX6_type_61 : decode cX6_type 61 = .ok (.getfield 171, 3) := by decide +kernel
theorem dX6_type_64 : decode cX6_type 64 = .ok (.ireturn, 1) := by decide +kernel
theorem dX6_clearText_0 : decode cX6_clearText 0 = .ok (.aload_n 0, 1) := by decide +kernel
theorem dX6_clearText_1 : decode cX6_clearText 1 = .ok (.getfield 55, 3) := by decide +kernel
theorem dX6_clearText_4 : decode cX6_clearText 4 = .ok (.getfield 171, 3) := by decide +kernel
theorem dX6_clearText_7 : decode cX6_clearText 7 = .ok (.istore_n 1, 1) := by decide +kernel
theorem dX6_clearText_8 : decode cX6_clearText 8 = .ok (.aload_n 0, 1) := by decide +kernel
theorem dX6_clearText_9 : decode cX6_clearText 9 = .ok (.getfield 55, 3) := by decide +kernel
theorem dX6_clearText_12 : decode cX6_clearText 12 = .ok (.iconst 0, 1) := by decide +kernel
theorem dX6_clearText_13 : decode cX6_clearText 13 = .ok (.putfield 171, 3) := by decide +kernel
theorem dX6_clearText_16 : decode cX6_clearText 16 = .ok (.iload_n 1, 1) := by decide +kernel
theorem dX6_clearText_17 : decode cX6_clearText 17 = .ok (.ireturn, 1) := by decide +kernel
theorem dX6_fault_0 : decode cX6_fault 0 = .ok (.aload_n 0, 1) := by decide +kernel
theorem dX6_fault_1 : decode cX6_fault 1 = .ok (.getfield 55, 3) := by decide +kernel
theorem dX6_fault_4 : decode cX6_fault 4 = .ok (.invokevirtual 177, 3) := by decide +kernel
theorem dX6_fault_7 : decode cX6_fault 7 = .ok (.aload_n 0, 1) := by decide +kernel
theorem dX6_fault_8 : decode cX6_fault 8 = .ok (.getfield 55, 3) := by decide +kernel
theorem dX6_fault_11 : decode cX6_fault 11 = .ok (.getfield 180, 3) := by decide +kernel
theorem dX6_fault_14 : decode cX6_fault 14 = .ok (.ireturn, 1) := by decide +kernel
theorem dX6_run_0 : decode cX6_run 0 = .ok (.aload_n 0, 1) := by decide +kernel
theorem dX6_run_1 : decode cX6_run 1 = .ok (.getfield 55, 3) := by decide +kernel
theorem dX6_run_4 : decode cX6_run 4 = .ok (.invokevirtual 177, 3) := by decide +kernel
theorem dX6_run_7 : decode cX6_run 7 = .ok (.aload_n 0, 1) := by decide +kernel
theorem dX6_run_8 : decode cX6_run 8 = .ok (.getfield 55, 3) := by decide +kernel
theorem dX6_run_11 : decode cX6_run 11 = .ok (.getfield 180, 3) := by decide +kernel
theorem dX6_run_14 : decode cX6_run 14 = .ok (.iconst (-1), 1) := by decide +kernel
theorem dX6_run_15 : decode cX6_run 15 = .ok (.if_icmp .eq 6, 3) := by decide +kernel
theorem dX6_run_18 : decode cX6_run 18 = .ok (.ldc 117, 2) := by decide +kernel
theorem dX6_run_20 : decode cX6_run 20 = .ok (.ireturn, 1) := by decide +kernel
theorem dX6_run_21 : decode cX6_run 21 = .ok (.aload_n 0, 1) := by decide +kernel
theorem dX6_run_22 : decode cX6_run 22 = .ok (.iconst 0, 1) := by decide +kernel
theorem dX6_run_23 : decode cX6_run 23 = .ok (.putfield 59, 3) := by decide +kernel
theorem dX6_run_26 : decode cX6_run 26 = .ok (.iconst 0, 1) := by decide +kernel
theorem dX6_run_27 : decode cX6_run 27 = .ok (.istore_n 1, 1) := by decide +kernel
theorem dX6_run_28 : decode cX6_run 28 = .ok (.iconst 0, 1) := by decide +kernel
theorem dX6_run_29 : decode cX6_run 29 = .ok (.istore_n 2, 1) := by decide +kernel
theorem dX6_run_30 : decode cX6_run 30 = .ok (.iload_n 2, 1) := by decide +kernel
theorem dX6_run_31 : decode cX6_run 31 = .ok (.aload_n 0, 1) := by decide +kernel
theorem dX6_run_32 : decode cX6_run 32 = .ok (.getfield 55, 3) := by decide +kernel
theorem dX6_run_35 : decode cX6_run 35 = .ok (.getfield 183, 3) := by decide +kernel
theorem dX6_run_38 : decode cX6_run 38 = .ok (.if_icmp .ge 40, 3) := by decide +kernel
theorem dX6_run_41 : decode cX6_run 41 = .ok (.aload_n 0, 1) := by decide +kernel
theorem dX6_run_42 : decode cX6_run 42 = .ok (.getfield 59, 3) := by decide +kernel
theorem dX6_run_45 : decode cX6_run 45 = .ok (.ifCond .ne 33, 3) := by decide +kernel
theorem dX6_run_48 : decode cX6_run 48 = .ok (.aload_n 0, 1) := by decide +kernel
theorem dX6_run_49 : decode cX6_run 49 = .ok (.iload_n 2, 1) := by decide +kernel
theorem dX6_run_50 : decode cX6_run 50 = .ok (.invokevirtual 186, 3) := by decide +kernel
theorem dX6_run_53 : decode cX6_run 53 = .ok (.istore_n 3, 1) := by decide +kernel
theorem dX6_run_54 : decode cX6_run 54 = .ok (.iload_n 3, 1) := by decide +kernel
theorem dX6_run_55 : decode cX6_run 55 = .ok (.invokestatic 189, 3) := by decide +kernel
theorem dX6_run_58 : decode cX6_run 58 = .ok (.ifCond .eq 11, 3) := by decide +kernel
theorem dX6_run_61 : decode cX6_run 61 = .ok (.aload_n 0, 1) := by decide +kernel
theorem dX6_run_62 : decode cX6_run 62 = .ok (.iload_n 3, 1) := by decide +kernel
theorem dX6_run_63 : decode cX6_run 63 = .ok (.putfield 59, 3) := by decide +kernel
theorem dX6_run_66 : decode cX6_run 66 = .ok (.goto 6, 3) := by decide +kernel
theorem dX6_run_69 : decode cX6_run 69 = .ok (.iinc 1 1, 3) := by decide +kernel
theorem dX6_run_72 : decode cX6_run 72 = .ok (.iinc 2 1, 3) := by decide +kernel
theorem dX6_run_75 : decode cX6_run 75 = .ok (.goto (-45), 3) := by decide +kernel
theorem dX6_run_78 : decode cX6_run 78 = .ok (.iload_n 1, 1) := by decide +kernel
theorem dX6_run_79 : decode cX6_run 79 = .ok (.ireturn, 1) := by decide +kernel
theorem dX6_refusal_0 : decode cX6_refusal 0 = .ok (.aload_n 0, 1) := by decide +kernel
theorem dX6_refusal_1 : decode cX6_refusal 1 = .ok (.getfield 59, 3) := by decide +kernel
theorem dX6_refusal_4 : decode cX6_refusal 4 = .ok (.ireturn, 1) := by decide +kernel
theorem dX6_save_0 : decode cX6_save 0 = .ok (.iload_n 1, 1) := by decide +kernel
theorem dX6_save_1 : decode cX6_save 1 = .ok (.ifCond .lt 8, 3) := by decide +kernel
theorem dX6_save_4 : decode cX6_save 4 = .ok (.iload_n 1, 1) := by decide +kernel
theorem dX6_save_5 : decode cX6_save 5 = .ok (.iconst 2, 1) := by decide +kernel
theorem dX6_save_6 : decode cX6_save 6 = .ok (.if_icmp .lt 6, 3) := by decide +kernel
theorem dX6_save_9 : decode cX6_save 9 = .ok (.ldc 63, 2) := by decide +kernel
theorem dX6_save_11 : decode cX6_save 11 = .ok (.ireturn, 1) := by decide +kernel
theorem dX6_save_12 : decode cX6_save 12 = .ok (.aload_n 0, 1) := by decide +kernel
theorem dX6_save_13 : decode cX6_save 13 = .ok (.getfield 20, 3) := by decide +kernel
theorem dX6_save_16 : decode cX6_save 16 = .ok (.iload_n 1, 1) := by decide +kernel
theorem dX6_save_17 : decode cX6_save 17 = .ok (.aaload, 1) := by decide +kernel
theorem dX6_save_18 : decode cX6_save 18 = .ok (.ifnonnull 16, 3) := by decide +kernel
theorem dX6_save_21 : decode cX6_save 21 = .ok (.aload_n 0, 1) := by decide +kernel
theorem dX6_save_22 : decode cX6_save 22 = .ok (.getfield 20, 3) := by decide +kernel
theorem dX6_save_25 : decode cX6_save 25 = .ok (.iload_n 1, 1) := by decide +kernel
theorem dX6_save_26 : decode cX6_save 26 = .ok (.new 9, 3) := by decide +kernel
theorem dX6_save_29 : decode cX6_save 29 = .ok (.dup, 1) := by decide +kernel
theorem dX6_save_30 : decode cX6_save 30 = .ok (.invokespecial 11, 3) := by decide +kernel
theorem dX6_save_33 : decode cX6_save 33 = .ok (.aastore, 1) := by decide +kernel
theorem dX6_save_34 : decode cX6_save 34 = .ok (.aload_n 0, 1) := by decide +kernel
theorem dX6_save_35 : decode cX6_save 35 = .ok (.getfield 20, 3) := by decide +kernel
theorem dX6_save_38 : decode cX6_save 38 = .ok (.iload_n 1, 1) := by decide +kernel
theorem dX6_save_39 : decode cX6_save 39 = .ok (.aaload, 1) := by decide +kernel
theorem dX6_save_40 : decode cX6_save 40 = .ok (.aload_n 0, 1) := by decide +kernel
theorem dX6_save_41 : decode cX6_save 41 = .ok (.getfield 12, 3) := by decide +kernel
theorem dX6_save_44 : decode cX6_save 44 = .ok (.invokevirtual 192, 3) := by decide +kernel
theorem dX6_save_47 : decode cX6_save 47 = .ok (.aload_n 0, 1) := by decide +kernel
theorem dX6_save_48 : decode cX6_save 48 = .ok (.getfield 12, 3) := by decide +kernel
theorem dX6_save_51 : decode cX6_save 51 = .ok (.invokevirtual 195, 3) := by decide +kernel
theorem dX6_save_54 : decode cX6_save 54 = .ok (.ireturn, 1) := by decide +kernel
theorem dX6_restore_0 : decode cX6_restore 0 = .ok (.iload_n 1, 1) := by decide +kernel
theorem dX6_restore_1 : decode cX6_restore 1 = .ok (.ifCond .lt 8, 3) := by decide +kernel
theorem dX6_restore_4 : decode cX6_restore 4 = .ok (.iload_n 1, 1) := by decide +kernel
theorem dX6_restore_5 : decode cX6_restore 5 = .ok (.iconst 2, 1) := by decide +kernel
theorem dX6_restore_6 : decode cX6_restore 6 = .ok (.if_icmp .lt 6, 3) := by decide +kernel
theorem dX6_restore_9 : decode cX6_restore 9 = .ok (.ldc 63, 2) := by decide +kernel
theorem dX6_restore_11 : decode cX6_restore 11 = .ok (.ireturn, 1) := by decide +kernel
theorem dX6_restore_12 : decode cX6_restore 12 = .ok (.aload_n 0, 1) := by decide +kernel
theorem dX6_restore_13 : decode cX6_restore 13 = .ok (.getfield 20, 3) := by decide +kernel
theorem dX6_restore_16 : decode cX6_restore 16 = .ok (.iload_n 1, 1) := by decide +kernel
theorem dX6_restore_17 : decode cX6_restore 17 = .ok (.aaload, 1) := by decide +kernel
theorem dX6_restore_18 : decode cX6_restore 18 = .ok (.ifnonnull 6, 3) := by decide +kernel
theorem dX6_restore_21 : decode cX6_restore 21 = .ok (.ldc 117, 2) := by decide +kernel
theorem dX6_restore_23 : decode cX6_restore 23 = .ok (.ireturn, 1) := by decide +kernel
theorem dX6_restore_24 : decode cX6_restore 24 = .ok (.aload_n 0, 1) := by decide +kernel
theorem dX6_restore_25 : decode cX6_restore 25 = .ok (.getfield 12, 3) := by decide +kernel
theorem dX6_restore_28 : decode cX6_restore 28 = .ok (.aload_n 0, 1) := by decide +kernel
theorem dX6_restore_29 : decode cX6_restore 29 = .ok (.getfield 20, 3) := by decide +kernel
theorem dX6_restore_32 : decode cX6_restore 32 = .ok (.iload_n 1, 1) := by decide +kernel
theorem dX6_restore_33 : decode cX6_restore 33 = .ok (.aaload, 1) := by decide +kernel
theorem dX6_restore_34 : decode cX6_restore 34 = .ok (.invokevirtual 192, 3) := by decide +kernel
theorem dX6_restore_37 : decode cX6_restore 37 = .ok (.aload_n 0, 1) := by decide +kernel
theorem dX6_restore_38 : decode cX6_restore 38 = .ok (.getfield 12, 3) := by decide +kernel
theorem dX6_restore_41 : decode cX6_restore 41 = .ok (.invokevirtual 195, 3) := by decide +kernel
theorem dX6_restore_44 : decode cX6_restore 44 = .ok (.ireturn, 1) := by decide +kernel
theorem dX6_count_0 : decode cX6_count 0 = .ok (.iload_n 1, 1) := by decide +kernel
theorem dX6_count_1 : decode cX6_count 1 = .ok (.tableswitch 111 0 7 #[47, 55, 63, 71, 79, 87, 95, 103], 47) := by decide +kernel
theorem dX6_count_48 : decode cX6_count 48 = .ok (.aload_n 0, 1) := by decide +kernel
theorem dX6_count_49 : decode cX6_count 49 = .ok (.getfield 12, 3) := by decide +kernel
theorem dX6_count_52 : decode cX6_count 52 = .ok (.getfield 198, 3) := by decide +kernel
theorem dX6_count_55 : decode cX6_count 55 = .ok (.ireturn, 1) := by decide +kernel
theorem dX6_count_56 : decode cX6_count 56 = .ok (.aload_n 0, 1) := by decide +kernel
theorem dX6_count_57 : decode cX6_count 57 = .ok (.getfield 12, 3) := by decide +kernel
theorem dX6_count_60 : decode cX6_count 60 = .ok (.getfield 201, 3) := by decide +kernel
theorem dX6_count_63 : decode cX6_count 63 = .ok (.ireturn, 1) := by decide +kernel
theorem dX6_count_64 : decode cX6_count 64 = .ok (.aload_n 0, 1) := by decide +kernel
theorem dX6_count_65 : decode cX6_count 65 = .ok (.getfield 12, 3) := by decide +kernel
theorem dX6_count_68 : decode cX6_count 68 = .ok (.invokevirtual 195, 3) := by decide +kernel
theorem dX6_count_71 : decode cX6_count 71 = .ok (.ireturn, 1) := by decide +kernel
theorem dX6_count_72 : decode cX6_count 72 = .ok (.aload_n 0, 1) := by decide +kernel
theorem dX6_count_73 : decode cX6_count 73 = .ok (.getfield 12, 3) := by decide +kernel
theorem dX6_count_76 : decode cX6_count 76 = .ok (.invokevirtual 118, 3) := by decide +kernel
theorem dX6_count_79 : decode cX6_count 79 = .ok (.ireturn, 1) := by decide +kernel
theorem dX6_count_80 : decode cX6_count 80 = .ok (.aload_n 0, 1) := by decide +kernel
theorem dX6_count_81 : decode cX6_count 81 = .ok (.getfield 12, 3) := by decide +kernel
theorem dX6_count_84 : decode cX6_count 84 = .ok (.getfield 204, 3) := by decide +kernel
theorem dX6_count_87 : decode cX6_count 87 = .ok (.ireturn, 1) := by decide +kernel
theorem dX6_count_88 : decode cX6_count 88 = .ok (.aload_n 0, 1) := by decide +kernel
theorem dX6_count_89 : decode cX6_count 89 = .ok (.getfield 12, 3) := by decide +kernel
theorem dX6_count_92 : decode cX6_count 92 = .ok (.getfield 143, 3) := by decide +kernel
theorem dX6_count_95 : decode cX6_count 95 = .ok (.ireturn, 1) := by decide +kernel
theorem dX6_count_96 : decode cX6_count 96 = .ok (.aload_n 0, 1) := by decide +kernel
theorem dX6_count_97 : decode cX6_count 97 = .ok (.getfield 12, 3) := by decide +kernel
theorem dX6_count_100 : decode cX6_count 100 = .ok (.getfield 146, 3) := by decide +kernel
theorem dX6_count_103 : decode cX6_count 103 = .ok (.ireturn, 1) := by decide +kernel
theorem dX6_count_104 : decode cX6_count 104 = .ok (.aload_n 0, 1) := by decide +kernel
theorem dX6_count_105 : decode cX6_count 105 = .ok (.getfield 55, 3) := by decide +kernel
theorem dX6_count_108 : decode cX6_count 108 = .ok (.getfield 171, 3) := by decide +kernel
theorem dX6_count_111 : decode cX6_count 111 = .ok (.ireturn, 1) := by decide +kernel
theorem dX6_count_112 : decode cX6_count 112 = .ok (.ldc 63, 2) := by decide +kernel
theorem dX6_count_114 : decode cX6_count 114 = .ok (.ireturn, 1) := by decide +kernel
theorem dX6_digest_0 : decode cX6_digest 0 = .ok (.ldc2_w 207, 3) := by decide +kernel
theorem dX6_digest_3 : decode cX6_digest 3 = .ok (.lstore_n 1, 1) := by decide +kernel
theorem dX6_digest_4 : decode cX6_digest 4 = .ok (.iconst 0, 1) := by decide +kernel
theorem dX6_digest_5 : decode cX6_digest 5 = .ok (.istore_n 3, 1) := by decide +kernel
theorem dX6_digest_6 : decode cX6_digest 6 = .ok (.iload_n 3, 1) := by decide +kernel
theorem dX6_digest_7 : decode cX6_digest 7 = .ok (.bipush 8, 2) := by decide +kernel
theorem dX6_digest_9 : decode cX6_digest 9 = .ok (.if_icmp .ge 19, 3) := by decide +kernel
theorem dX6_digest_12 : decode cX6_digest 12 = .ok (.lload_n 1, 1) := by decide +kernel
theorem dX6_digest_13 : decode cX6_digest 13 = .ok (.aload_n 0, 1) := by decide +kernel
theorem dX6_digest_14 : decode cX6_digest 14 = .ok (.iload_n 3, 1) := by decide +kernel
theorem dX6_digest_15 : decode cX6_digest 15 = .ok (.invokevirtual 209, 3) := by decide +kernel
theorem dX6_digest_18 : decode cX6_digest 18 = .ok (.invokestatic 212, 3) := by decide +kernel
theorem dX6_digest_21 : decode cX6_digest 21 = .ok (.lstore_n 1, 1) := by decide +kernel
theorem dX6_digest_22 : decode cX6_digest 22 = .ok (.iinc 3 1, 3) := by decide +kernel
theorem dX6_digest_25 : decode cX6_digest 25 = .ok (.goto (-19), 3) := by decide +kernel
theorem dX6_digest_28 : decode cX6_digest 28 = .ok (.lload_n 1, 1) := by decide +kernel
theorem dX6_digest_29 : decode cX6_digest 29 = .ok (.aload_n 0, 1) := by decide +kernel
theorem dX6_digest_30 : decode cX6_digest 30 = .ok (.getfield 12, 3) := by decide +kernel
theorem dX6_digest_33 : decode cX6_digest 33 = .ok (.getfield 122, 3) := by decide +kernel
theorem dX6_digest_36 : decode cX6_digest 36 = .ok (.iconst 0, 1) := by decide +kernel
theorem dX6_digest_37 : decode cX6_digest 37 = .ok (.bipush 6, 2) := by decide +kernel
theorem dX6_digest_39 : decode cX6_digest 39 = .ok (.invokestatic 216, 3) := by decide +kernel
theorem dX6_digest_42 : decode cX6_digest 42 = .ok (.lstore_n 1, 1) := by decide +kernel
theorem dX6_digest_43 : decode cX6_digest 43 = .ok (.lload_n 1, 1) := by decide +kernel
theorem dX6_digest_44 : decode cX6_digest 44 = .ok (.aload_n 0, 1) := by decide +kernel
theorem dX6_digest_45 : decode cX6_digest 45 = .ok (.getfield 12, 3) := by decide +kernel
theorem dX6_digest_48 : decode cX6_digest 48 = .ok (.getfield 125, 3) := by decide +kernel
theorem dX6_digest_51 : decode cX6_digest 51 = .ok (.iconst 0, 1) := by decide +kernel
theorem dX6_digest_52 : decode cX6_digest 52 = .ok (.iconst 4, 1) := by decide +kernel
theorem dX6_digest_53 : decode cX6_digest 53 = .ok (.invokestatic 216, 3) := by decide +kernel
theorem dX6_digest_56 : decode cX6_digest 56 = .ok (.lstore_n 1, 1) := by decide +kernel
theorem dX6_digest_57 : decode cX6_digest 57 = .ok (.aload_n 0, 1) := by decide +kernel
theorem dX6_digest_58 : decode cX6_digest 58 = .ok (.lload_n 1, 1) := by decide +kernel
theorem dX6_digest_59 : decode cX6_digest 59 = .ok (.invokevirtual 220, 3) := by decide +kernel
theorem dX6_digest_62 : decode cX6_digest 62 = .ok (.lstore_n 1, 1) := by decide +kernel
theorem dX6_digest_63 : decode cX6_digest 63 = .ok (.aload_n 0, 1) := by decide +kernel
theorem dX6_digest_64 : decode cX6_digest 64 = .ok (.getfield 48, 3) := by decide +kernel
theorem dX6_digest_67 : decode cX6_digest 67 = .ok (.aload_n 0, 1) := by decide +kernel
theorem dX6_digest_68 : decode cX6_digest 68 = .ok (.getfield 12, 3) := by decide +kernel
theorem dX6_digest_71 : decode cX6_digest 71 = .ok (.invokevirtual 165, 3) := by decide +kernel
theorem dX6_digest_74 : decode cX6_digest 74 = .ok (.lload_n 1, 1) := by decide +kernel
theorem dX6_digest_75 : decode cX6_digest 75 = .ok (.aload_n 0, 1) := by decide +kernel
theorem dX6_digest_76 : decode cX6_digest 76 = .ok (.getfield 48, 3) := by decide +kernel
theorem dX6_digest_79 : decode cX6_digest 79 = .ok (.getfield 168, 3) := by decide +kernel
theorem dX6_digest_82 : decode cX6_digest 82 = .ok (.iconst 0, 1) := by decide +kernel
theorem dX6_digest_83 : decode cX6_digest 83 = .ok (.iconst 5, 1) := by decide +kernel
theorem dX6_digest_84 : decode cX6_digest 84 = .ok (.invokestatic 216, 3) := by decide +kernel
theorem dX6_digest_87 : decode cX6_digest 87 = .ok (.lstore_n 1, 1) := by decide +kernel
theorem dX6_digest_88 : decode cX6_digest 88 = .ok (.aload_n 0, 1) := by decide +kernel
theorem dX6_digest_89 : decode cX6_digest 89 = .ok (.getfield 12, 3) := by decide +kernel
theorem dX6_digest_92 : decode cX6_digest 92 = .ok (.getfield 143, 3) := by decide +kernel
theorem dX6_digest_95 : decode cX6_digest 95 = .ok (.ifCond .le 18, 3) := by decide +kernel
theorem dX6_digest_98 : decode cX6_digest 98 = .ok (.lload_n 1, 1) := by decide +kernel
theorem dX6_digest_99 : decode cX6_digest 99 = .ok (.aload_n 0, 1) := by decide +kernel
theorem dX6_digest_100 : decode cX6_digest 100 = .ok (.getfield 12, 3) := by decide +kernel
theorem dX6_digest_103 : decode cX6_digest 103 = .ok (.getfield 155, 3) := by decide +kernel
theorem dX6_digest_106 : decode cX6_digest 106 = .ok (.iconst 0, 1) := by decide +kernel
theorem dX6_digest_107 : decode cX6_digest 107 = .ok (.bipush 6, 2) := by decide +kernel
theorem dX6_digest_109 : decode cX6_digest 109 = .ok (.invokestatic 216, 3) := by decide +kernel
theorem dX6_digest_112 : decode cX6_digest 112 = .ok (.lstore_n 1, 1) := by decide +kernel
theorem dX6_digest_113 : decode cX6_digest 113 = .ok (.lload_n 1, 1) := by decide +kernel
theorem dX6_digest_114 : decode cX6_digest 114 = .ok (.aload_n 0, 1) := by decide +kernel
theorem dX6_digest_115 : decode cX6_digest 115 = .ok (.getfield 55, 3) := by decide +kernel
theorem dX6_digest_118 : decode cX6_digest 118 = .ok (.getfield 174, 3) := by decide +kernel
theorem dX6_digest_121 : decode cX6_digest 121 = .ok (.iconst 0, 1) := by decide +kernel
theorem dX6_digest_122 : decode cX6_digest 122 = .ok (.aload_n 0, 1) := by decide +kernel
theorem dX6_digest_123 : decode cX6_digest 123 = .ok (.getfield 55, 3) := by decide +kernel
theorem dX6_digest_126 : decode cX6_digest 126 = .ok (.getfield 171, 3) := by decide +kernel
theorem dX6_digest_129 : decode cX6_digest 129 = .ok (.invokestatic 216, 3) := by decide +kernel
theorem dX6_digest_132 : decode cX6_digest 132 = .ok (.lreturn, 1) := by decide +kernel
theorem dX6_absorbObjects_0 : decode cX6_absorbObjects 0 = .ok (.lload_n 1, 1) := by decide +kernel
theorem dX6_absorbObjects_1 : decode cX6_absorbObjects 1 = .ok (.lstore_n 3, 1) := by decide +kernel
theorem dX6_absorbObjects_2 : decode cX6_absorbObjects 2 = .ok (.aload_n 0, 1) := by decide +kernel
theorem dX6_absorbObjects_3 : decode cX6_absorbObjects 3 = .ok (.getfield 41, 3) := by decide +kernel
theorem dX6_absorbObjects_6 : decode cX6_absorbObjects 6 = .ok (.aload_n 0, 1) := by decide +kernel
theorem dX6_absorbObjects_7 : decode cX6_absorbObjects 7 = .ok (.getfield 12, 3) := by decide +kernel
theorem dX6_absorbObjects_10 : decode cX6_absorbObjects 10 = .ok (.invokevirtual 76, 3) := by decide +kernel
theorem dX6_absorbObjects_13 : decode cX6_absorbObjects 13 = .ok (.aload_n 0, 1) := by decide +kernel
theorem dX6_absorbObjects_14 : decode cX6_absorbObjects 14 = .ok (.getfield 34, 3) := by decide +kernel
theorem dX6_absorbObjects_17 : decode cX6_absorbObjects 17 = .ok (.aload_n 0, 1) := by decide +kernel
theorem dX6_absorbObjects_18 : decode cX6_absorbObjects 18 = .ok (.getfield 12, 3) := by decide +kernel
theorem dX6_absorbObjects_21 : decode cX6_absorbObjects 21 = .ok (.iconst (-1), 1) := by decide +kernel
theorem dX6_absorbObjects_22 : decode cX6_absorbObjects 22 = .ok (.invokevirtual 80, 3) := by decide +kernel
theorem dX6_absorbObjects_25 : decode cX6_absorbObjects 25 = .ok (.iconst 0, 1) := by decide +kernel
theorem dX6_absorbObjects_26 : decode cX6_absorbObjects 26 = .ok (.istore 5, 2) := by decide +kernel
theorem dX6_absorbObjects_28 : decode cX6_absorbObjects 28 = .ok (.iload 5, 2) := by decide +kernel
theorem dX6_absorbObjects_30 : decode cX6_absorbObjects 30 = .ok (.aload_n 0, 1) := by decide +kernel
theorem dX6_absorbObjects_31 : decode cX6_absorbObjects 31 = .ok (.getfield 12, 3) := by decide +kernel
theorem dX6_absorbObjects_34 : decode cX6_absorbObjects 34 = .ok (.getfield 198, 3) := by decide +kernel
theorem dX6_absorbObjects_37 : decode cX6_absorbObjects 37 = .ok (.if_icmp .ge 78, 3) := by decide +kernel
theorem dX6_absorbObjects_40 : decode cX6_absorbObjects 40 = .ok (.aload_n 0, 1) := by decide +kernel
theorem dX6_absorbObjects_41 : decode cX6_absorbObjects 41 = .ok (.getfield 12, 3) := by decide +kernel
theorem dX6_absorbObjects_44 : decode cX6_absorbObjects 44 = .ok (.iload 5, 2) := by decide +kernel
theorem dX6_absorbObjects_46 : decode cX6_absorbObjects 46 = .ok (.invokevirtual 224, 3) := by decide +kernel
theorem dX6_absorbObjects_49 : decode cX6_absorbObjects 49 = .ok (.ifCond .eq 60, 3) := by decide +kernel
theorem dX6_absorbObjects_52 : decode cX6_absorbObjects 52 = .ok (.iconst 0, 1) := by decide +kernel
theorem dX6_absorbObjects_53 : decode cX6_absorbObjects 53 = .ok (.istore 6, 2) := by decide +kernel
theorem dX6_absorbObjects_55 : decode cX6_absorbObjects 55 = .ok (.iload 6, 2) := by decide +kernel
theorem dX6_absorbObjects_57 : decode cX6_absorbObjects 57 = .ok (.bipush 8, 2) := by decide +kernel
theorem dX6_absorbObjects_59 : decode cX6_absorbObjects 59 = .ok (.if_icmp .ge 22, 3) := by decide +kernel
theorem dX6_absorbObjects_62 : decode cX6_absorbObjects 62 = .ok (.lload_n 3, 1) := by decide +kernel
theorem dX6_absorbObjects_63 : decode cX6_absorbObjects 63 = .ok (.aload_n 0, 1) := by decide +kernel
theorem dX6_absorbObjects_64 : decode cX6_absorbObjects 64 = .ok (.iload 5, 2) := by decide +kernel
theorem dX6_absorbObjects_66 : decode cX6_absorbObjects 66 = .ok (.iload 6, 2) := by decide +kernel
theorem dX6_absorbObjects_68 : decode cX6_absorbObjects 68 = .ok (.invokevirtual 84, 3) := by decide +kernel
theorem dX6_absorbObjects_71 : decode cX6_absorbObjects 71 = .ok (.invokestatic 212, 3) := by decide +kernel
theorem dX6_absorbObjects_74 : decode cX6_absorbObjects 74 = .ok (.lstore_n 3, 1) := by decide +kernel
theorem dX6_absorbObjects_75 : decode cX6_absorbObjects 75 = .ok (.iinc 6 1, 3) := by decide +kernel
theorem dX6_absorbObjects_78 : decode cX6_absorbObjects 78 = .ok (.goto (-23), 3) := by decide +kernel
theorem dX6_absorbObjects_81 : decode cX6_absorbObjects 81 = .ok (.lload_n 3, 1) := by decide +kernel
theorem dX6_absorbObjects_82 : decode cX6_absorbObjects 82 = .ok (.aload_n 0, 1) := by decide +kernel
theorem dX6_absorbObjects_83 : decode cX6_absorbObjects 83 = .ok (.getfield 12, 3) := by decide +kernel
theorem dX6_absorbObjects_86 : decode cX6_absorbObjects 86 = .ok (.getfield 101, 3) := by decide +kernel
theorem dX6_absorbObjects_89 : decode cX6_absorbObjects 89 = .ok (.iload 5, 2) := by decide +kernel
theorem dX6_absorbObjects_91 : decode cX6_absorbObjects 91 = .ok (.iconst 1, 1) := by decide +kernel
theorem dX6_absorbObjects_92 : decode cX6_absorbObjects 92 = .ok (.iadd, 1) := by decide +kernel
theorem dX6_absorbObjects_93 : decode cX6_absorbObjects 93 = .ok (.iload 5, 2) := by decide +kernel
theorem dX6_absorbObjects_95 : decode cX6_absorbObjects 95 = .ok (.aload_n 0, 1) := by decide +kernel
theorem dX6_absorbObjects_96 : decode cX6_absorbObjects 96 = .ok (.getfield 12, 3) := by decide +kernel
theorem dX6_absorbObjects_99 : decode cX6_absorbObjects 99 = .ok (.iload 5, 2) := by decide +kernel
theorem dX6_absorbObjects_101 : decode cX6_absorbObjects 101 = .ok (.invokevirtual 91, 3) := by decide +kernel
theorem dX6_absorbObjects_104 : decode cX6_absorbObjects 104 = .ok (.iadd, 1) := by decide +kernel
theorem dX6_absorbObjects_105 : decode cX6_absorbObjects 105 = .ok (.invokestatic 216, 3) := by decide +kernel
theorem dX6_absorbObjects_108 : decode cX6_absorbObjects 108 = .ok (.lstore_n 3, 1) := by decide +kernel
theorem dX6_absorbObjects_109 : decode cX6_absorbObjects 109 = .ok (.iinc 5 1, 3) := by decide +kernel
theorem dX6_absorbObjects_112 : decode cX6_absorbObjects 112 = .ok (.goto (-84), 3) := by decide +kernel
theorem dX6_absorbObjects_115 : decode cX6_absorbObjects 115 = .ok (.lload_n 3, 1) := by decide +kernel
theorem dX6_absorbObjects_116 : decode cX6_absorbObjects 116 = .ok (.lreturn, 1) := by decide +kernel
theorem dX6_absorbRow_0 : decode cX6_absorbRow 0 = .ok (.lload_n 0, 1) := by decide +kernel
theorem dX6_absorbRow_1 : decode cX6_absorbRow 1 = .ok (.lstore 5, 2) := by decide +kernel
theorem dX6_absorbRow_3 : decode cX6_absorbRow 3 = .ok (.iload_n 3, 1) := by decide +kernel
theorem dX6_absorbRow_4 : decode cX6_absorbRow 4 = .ok (.istore 7, 2) := by decide +kernel
theorem dX6_absorbRow_6 : decode cX6_absorbRow 6 = .ok (.iload 7, 2) := by decide +kernel
theorem dX6_absorbRow_8 : decode cX6_absorbRow 8 = .ok (.iload 4, 2) := by decide +kernel
theorem dX6_absorbRow_10 : decode cX6_absorbRow 10 = .ok (.if_icmp .ge 27, 3) := by decide +kernel
theorem dX6_absorbRow_13 : decode cX6_absorbRow 13 = .ok (.iload 7, 2) := by decide +kernel
theorem dX6_absorbRow_15 : decode cX6_absorbRow 15 = .ok (.aload_n 2, 1) := by decide +kernel
theorem dX6_absorbRow_16 : decode cX6_absorbRow 16 = .ok (.arraylength, 1) := by decide +kernel
theorem dX6_absorbRow_17 : decode cX6_absorbRow 17 = .ok (.if_icmp .ge 20, 3) := by decide +kernel
theorem dX6_absorbRow_20 : decode cX6_absorbRow 20 = .ok (.lload 5, 2) := by decide +kernel
theorem dX6_absorbRow_22 : decode cX6_absorbRow 22 = .ok (.aload_n 2, 1) := by decide +kernel
theorem dX6_absorbRow_23 : decode cX6_absorbRow 23 = .ok (.iload 7, 2) := by decide +kernel
theorem dX6_absorbRow_25 : decode cX6_absorbRow 25 = .ok (.iaload, 1) := by decide +kernel
theorem dX6_absorbRow_26 : decode cX6_absorbRow 26 = .ok (.invokestatic 212, 3) := by decide +kernel
theorem dX6_absorbRow_29 : decode cX6_absorbRow 29 = .ok (.lstore 5, 2) := by decide +kernel
theorem dX6_absorbRow_31 : decode cX6_absorbRow 31 = .ok (.iinc 7 1, 3) := by decide +kernel
theorem dX6_absorbRow_34 : decode cX6_absorbRow 34 = .ok (.goto (-28), 3) := by decide +kernel
theorem dX6_absorbRow_37 : decode cX6_absorbRow 37 = .ok (.lload 5, 2) := by decide +kernel
theorem dX6_absorbRow_39 : decode cX6_absorbRow 39 = .ok (.lreturn, 1) := by decide +kernel
theorem dX6_absorb_0 : decode cX6_absorb 0 = .ok (.ldc2_w 227, 3) := by decide +kernel
theorem dX6_absorb_3 : decode cX6_absorb 3 = .ok (.lload_n 0, 1) := by decide +kernel
theorem dX6_absorb_4 : decode cX6_absorb 4 = .ok (.lmul, 1) := by decide +kernel
theorem dX6_absorb_5 : decode cX6_absorb 5 = .ok (.iload_n 2, 1) := by decide +kernel
theorem dX6_absorb_6 : decode cX6_absorb 6 = .ok (.i2l, 1) := by decide +kernel
theorem dX6_absorb_7 : decode cX6_absorb 7 = .ok (.ladd, 1) := by decide +kernel
theorem dX6_absorb_8 : decode cX6_absorb 8 = .ok (.lreturn, 1) := by decide +kernel
theorem dX6_property_0 : decode cX6_property 0 = .ok (.iload_n 2, 1) := by decide +kernel
theorem dX6_property_1 : decode cX6_property 1 = .ok (.tableswitch 104 0 6 #[43, 45, 54, 64, 74, 84, 94], 43) := by decide +kernel
theorem dX6_property_44 : decode cX6_property 44 = .ok (.iload_n 1, 1) := by decide +kernel
theorem dX6_property_45 : decode cX6_property 45 = .ok (.ireturn, 1) := by decide +kernel
theorem dX6_property_46 : decode cX6_property 46 = .ok (.aload_n 0, 1) := by decide +kernel
theorem dX6_property_47 : decode cX6_property 47 = .ok (.getfield 12, 3) := by decide +kernel
theorem dX6_property_50 : decode cX6_property 50 = .ok (.iload_n 1, 1) := by decide +kernel
theorem dX6_property_51 : decode cX6_property 51 = .ok (.invokevirtual 91, 3) := by decide +kernel
theorem dX6_property_54 : decode cX6_property 54 = .ok (.ireturn, 1) := by decide +kernel
theorem dX6_property_55 : decode cX6_property 55 = .ok (.aload_n 0, 1) := by decide +kernel
theorem dX6_property_56 : decode cX6_property 56 = .ok (.getfield 12, 3) := by decide +kernel
theorem dX6_property_59 : decode cX6_property 59 = .ok (.getfield 229, 3) := by decide +kernel
theorem dX6_property_62 : decode cX6_property 62 = .ok (.iload_n 1, 1) := by decide +kernel
theorem dX6_property_63 : decode cX6_property 63 = .ok (.iaload, 1) := by decide +kernel
theorem dX6_property_64 : decode cX6_property 64 = .ok (.ireturn, 1) := by decide +kernel
theorem dX6_property_65 : decode cX6_property 65 = .ok (.aload_n 0, 1) := by decide +kernel
theorem dX6_property_66 : decode cX6_property 66 = .ok (.getfield 12, 3) := by decide +kernel
theorem dX6_property_69 : decode cX6_property 69 = .ok (.getfield 232, 3) := by decide +kernel
theorem dX6_property_72 : decode cX6_property 72 = .ok (.iload_n 1, 1) := by decide +kernel
theorem dX6_property_73 : decode cX6_property 73 = .ok (.iaload, 1) := by decide +kernel
theorem dX6_property_74 : decode cX6_property 74 = .ok (.ireturn, 1) := by decide +kernel
theorem dX6_property_75 : decode cX6_property 75 = .ok (.aload_n 0, 1) := by decide +kernel
theorem dX6_property_76 : decode cX6_property 76 = .ok (.getfield 12, 3) := by decide +kernel
theorem dX6_property_79 : decode cX6_property 79 = .ok (.getfield 114, 3) := by decide +kernel
theorem dX6_property_82 : decode cX6_property 82 = .ok (.iload_n 1, 1) := by decide +kernel
theorem dX6_property_83 : decode cX6_property 83 = .ok (.iaload, 1) := by decide +kernel
theorem dX6_property_84 : decode cX6_property 84 = .ok (.ireturn, 1) := by decide +kernel
theorem dX6_property_85 : decode cX6_property 85 = .ok (.aload_n 0, 1) := by decide +kernel
theorem dX6_property_86 : decode cX6_property 86 = .ok (.getfield 12, 3) := by decide +kernel
theorem dX6_property_89 : decode cX6_property 89 = .ok (.getfield 235, 3) := by decide +kernel
theorem dX6_property_92 : decode cX6_property 92 = .ok (.iload_n 1, 1) := by decide +kernel
theorem dX6_property_93 : decode cX6_property 93 = .ok (.iaload, 1) := by decide +kernel
theorem dX6_property_94 : decode cX6_property 94 = .ok (.ireturn, 1) := by decide +kernel
theorem dX6_property_95 : decode cX6_property 95 = .ok (.aload_n 0, 1) := by decide +kernel
theorem dX6_property_96 : decode cX6_property 96 = .ok (.getfield 41, 3) := by decide +kernel
theorem dX6_property_99 : decode cX6_property 99 = .ok (.getfield 238, 3) := by decide +kernel
theorem dX6_property_102 : decode cX6_property 102 = .ok (.iload_n 1, 1) := by decide +kernel
theorem dX6_property_103 : decode cX6_property 103 = .ok (.iaload, 1) := by decide +kernel
theorem dX6_property_104 : decode cX6_property 104 = .ok (.ireturn, 1) := by decide +kernel
theorem dX6_property_105 : decode cX6_property 105 = .ok (.aload_n 0, 1) := by decide +kernel
theorem dX6_property_106 : decode cX6_property 106 = .ok (.getfield 34, 3) := by decide +kernel
theorem dX6_property_109 : decode cX6_property 109 = .ok (.getfield 162, 3) := by decide +kernel
theorem dX6_property_112 : decode cX6_property 112 = .ok (.iload_n 1, 1) := by decide +kernel
theorem dX6_property_113 : decode cX6_property 113 = .ok (.iaload, 1) := by decide +kernel
theorem dX6_property_114 : decode cX6_property 114 = .ok (.iconst (-1), 1) := by decide +kernel
theorem dX6_property_115 : decode cX6_property 115 = .ok (.if_icmp .ne 7, 3) := by decide +kernel
theorem dX6_property_118 : decode cX6_property 118 = .ok (.iconst 0, 1) := by decide +kernel
theorem dX6_property_119 : decode cX6_property 119 = .ok (.goto 4, 3) := by decide +kernel
theorem dX6_property_122 : decode cX6_property 122 = .ok (.iconst 1, 1) := by decide +kernel
theorem dX6_property_123 : decode cX6_property 123 = .ok (.ireturn, 1) := by decide +kernel
theorem dX6_fieldWord_0 : decode cX6_fieldWord 0 = .ok (.aload_n 0, 1) := by decide +kernel
theorem dX6_fieldWord_1 : decode cX6_fieldWord 1 = .ok (.getfield 12, 3) := by decide +kernel
theorem dX6_fieldWord_4 : decode cX6_fieldWord 4 = .ok (.iload_n 1, 1) := by decide +kernel
theorem dX6_fieldWord_5 : decode cX6_fieldWord 5 = .ok (.invokevirtual 73, 3) := by decide +kernel
theorem dX6_fieldWord_8 : decode cX6_fieldWord 8 = .ok (.istore_n 3, 1) := by decide +kernel
theorem dX6_fieldWord_9 : decode cX6_fieldWord 9 = .ok (.iload_n 3, 1) := by decide +kernel
theorem dX6_fieldWord_10 : decode cX6_fieldWord 10 = .ok (.iconst (-1), 1) := by decide +kernel
theorem dX6_fieldWord_11 : decode cX6_fieldWord 11 = .ok (.if_icmp .eq 20, 3) := by decide +kernel
theorem dX6_fieldWord_14 : decode cX6_fieldWord 14 = .ok (.iload_n 2, 1) := by decide +kernel
theorem dX6_fieldWord_15 : decode cX6_fieldWord 15 = .ok (.ifCond .lt 16, 3) := by decide +kernel
theorem dX6_fieldWord_18 : decode cX6_fieldWord 18 = .ok (.iload_n 2, 1) := by decide +kernel
theorem dX6_fieldWord_19 : decode cX6_fieldWord 19 = .ok (.aload_n 0, 1) := by decide +kernel
theorem dX6_fieldWord_20 : decode cX6_fieldWord 20 = .ok (.getfield 12, 3) := by decide +kernel
theorem dX6_fieldWord_23 : decode cX6_fieldWord 23 = .ok (.getfield 229, 3) := by decide +kernel
theorem dX6_fieldWord_26 : decode cX6_fieldWord 26 = .ok (.iload_n 3, 1) := by decide +kernel
theorem dX6_fieldWord_27 : decode cX6_fieldWord 27 = .ok (.iaload, 1) := by decide +kernel
theorem dX6_fieldWord_28 : decode cX6_fieldWord 28 = .ok (.if_icmp .lt 5, 3) := by decide +kernel
theorem dX6_fieldWord_31 : decode cX6_fieldWord 31 = .ok (.iconst (-1), 1) := by decide +kernel
theorem dX6_fieldWord_32 : decode cX6_fieldWord 32 = .ok (.ireturn, 1) := by decide +kernel
theorem dX6_fieldWord_33 : decode cX6_fieldWord 33 = .ok (.iload_n 3, 1) := by decide +kernel
theorem dX6_fieldWord_34 : decode cX6_fieldWord 34 = .ok (.iconst 1, 1) := by decide +kernel
theorem dX6_fieldWord_35 : decode cX6_fieldWord 35 = .ok (.iadd, 1) := by decide +kernel
theorem dX6_fieldWord_36 : decode cX6_fieldWord 36 = .ok (.iload_n 2, 1) := by decide +kernel
theorem dX6_fieldWord_37 : decode cX6_fieldWord 37 = .ok (.iadd, 1) := by decide +kernel
theorem dX6_fieldWord_38 : decode cX6_fieldWord 38 = .ok (.ireturn, 1) := by decide +kernel
theorem dX6_dataWord_0 : decode cX6_dataWord 0 = .ok (.aload_n 0, 1) := by decide +kernel
theorem dX6_dataWord_1 : decode cX6_dataWord 1 = .ok (.getfield 12, 3) := by decide +kernel
theorem dX6_dataWord_4 : decode cX6_dataWord 4 = .ok (.iload_n 1, 1) := by decide +kernel
theorem dX6_dataWord_5 : decode cX6_dataWord 5 = .ok (.invokevirtual 73, 3) := by decide +kernel
theorem dX6_dataWord_8 : decode cX6_dataWord 8 = .ok (.istore_n 3, 1) := by decide +kernel
theorem dX6_dataWord_9 : decode cX6_dataWord 9 = .ok (.iload_n 3, 1) := by decide +kernel
theorem dX6_dataWord_10 : decode cX6_dataWord 10 = .ok (.iconst (-1), 1) := by decide +kernel
theorem dX6_dataWord_11 : decode cX6_dataWord 11 = .ok (.if_icmp .eq 20, 3) := by decide +kernel
theorem dX6_dataWord_14 : decode cX6_dataWord 14 = .ok (.iload_n 2, 1) := by decide +kernel
theorem dX6_dataWord_15 : decode cX6_dataWord 15 = .ok (.ifCond .lt 16, 3) := by decide +kernel
theorem dX6_dataWord_18 : decode cX6_dataWord 18 = .ok (.iload_n 2, 1) := by decide +kernel
theorem dX6_dataWord_19 : decode cX6_dataWord 19 = .ok (.aload_n 0, 1) := by decide +kernel
theorem dX6_dataWord_20 : decode cX6_dataWord 20 = .ok (.getfield 12, 3) := by decide +kernel
theorem dX6_dataWord_23 : decode cX6_dataWord 23 = .ok (.getfield 232, 3) := by decide +kernel
theorem dX6_dataWord_26 : decode cX6_dataWord 26 = .ok (.iload_n 3, 1) := by decide +kernel
theorem dX6_dataWord_27 : decode cX6_dataWord 27 = .ok (.iaload, 1) := by decide +kernel
theorem dX6_dataWord_28 : decode cX6_dataWord 28 = .ok (.if_icmp .lt 5, 3) := by decide +kernel
theorem dX6_dataWord_31 : decode cX6_dataWord 31 = .ok (.iconst (-1), 1) := by decide +kernel
theorem dX6_dataWord_32 : decode cX6_dataWord 32 = .ok (.ireturn, 1) := by decide +kernel
theorem dX6_dataWord_33 : decode cX6_dataWord 33 = .ok (.iload_n 3, 1) := by decide +kernel
theorem dX6_dataWord_34 : decode cX6_dataWord 34 = .ok (.iconst 1, 1) := by decide +kernel
theorem dX6_dataWord_35 : decode cX6_dataWord 35 = .ok (.iadd, 1) := by decide +kernel
theorem dX6_dataWord_36 : decode cX6_dataWord 36 = .ok (.aload_n 0, 1) := by decide +kernel
theorem dX6_dataWord_37 : decode cX6_dataWord 37 = .ok (.getfield 12, 3) := by decide +kernel
theorem dX6_dataWord_40 : decode cX6_dataWord 40 = .ok (.getfield 229, 3) := by decide +kernel
theorem dX6_dataWord_43 : decode cX6_dataWord 43 = .ok (.iload_n 3, 1) := by decide +kernel
theorem dX6_dataWord_44 : decode cX6_dataWord 44 = .ok (.iaload, 1) := by decide +kernel
theorem dX6_dataWord_45 : decode cX6_dataWord 45 = .ok (.iadd, 1) := by decide +kernel
theorem dX6_dataWord_46 : decode cX6_dataWord 46 = .ok (.iload_n 2, 1) := by decide +kernel
theorem dX6_dataWord_47 : decode cX6_dataWord 47 = .ok (.iadd, 1) := by decide +kernel
theorem dX6_dataWord_48 : decode cX6_dataWord 48 = .ok (.ireturn, 1) := by decide +kernel
theorem dX6_exchange_0 : decode cX6_exchange 0 = .ok (.aload_n 0, 1) := by decide +kernel
theorem dX6_exchange_1 : decode cX6_exchange 1 = .ok (.iload_n 1, 1) := by decide +kernel
theorem dX6_exchange_2 : decode cX6_exchange 2 = .ok (.iaload, 1) := by decide +kernel
theorem dX6_exchange_3 : decode cX6_exchange 3 = .ok (.istore_n 3, 1) := by decide +kernel
theorem dX6_exchange_4 : decode cX6_exchange 4 = .ok (.aload_n 0, 1) := by decide +kernel
theorem dX6_exchange_5 : decode cX6_exchange 5 = .ok (.iload_n 1, 1) := by decide +kernel
theorem dX6_exchange_6 : decode cX6_exchange 6 = .ok (.iload_n 2, 1) := by decide +kernel
theorem dX6_exchange_7 : decode cX6_exchange 7 = .ok (.iastore, 1) := by decide +kernel
theorem dX6_exchange_8 : decode cX6_exchange 8 = .ok (.iload_n 3, 1) := by decide +kernel
theorem dX6_exchange_9 : decode cX6_exchange 9 = .ok (.ireturn, 1) := by decide +kernel
theorem dX6_isError_0 : decode cX6_isError 0 = .ok (.iload_n 0, 1) := by decide +kernel
theorem dX6_isError_1 : decode cX6_isError 1 = .ok (.ldc 63, 2) := by decide +kernel
theorem dX6_isError_3 : decode cX6_isError 3 = .ok (.if_icmp .eq 15, 3) := by decide +kernel
theorem dX6_isError_6 : decode cX6_isError 6 = .ok (.iload_n 0, 1) := by decide +kernel
theorem dX6_isError_7 : decode cX6_isError 7 = .ok (.ldc 117, 2) := by decide +kernel
theorem dX6_isError_9 : decode cX6_isError 9 = .ok (.if_icmp .eq 9, 3) := by decide +kernel
theorem dX6_isError_12 : decode cX6_isError 12 = .ok (.iload_n 0, 1) := by decide +kernel
theorem dX6_isError_13 : decode cX6_isError 13 = .ok (.ldc 68, 2) := by decide +kernel
theorem dX6_isError_15 : decode cX6_isError 15 = .ok (.if_icmp .ne 7, 3) := by decide +kernel
theorem dX6_isError_18 : decode cX6_isError 18 = .ok (.iconst 1, 1) := by decide +kernel
theorem dX6_isError_19 : decode cX6_isError 19 = .ok (.goto 4, 3) := by decide +kernel
theorem dX6_isError_22 : decode cX6_isError 22 = .ok (.iconst 0, 1) := by decide +kernel
theorem dX6_isError_23 : decode cX6_isError 23 = .ok (.ireturn, 1) := by decide +kernel
theorem dX6_perform_0 : decode cX6_perform 0 = .ok (.aload_n 0, 1) := by decide +kernel
theorem dX6_perform_1 : decode cX6_perform 1 = .ok (.getfield 55, 3) := by decide +kernel
theorem dX6_perform_4 : decode cX6_perform 4 = .ok (.getfield 241, 3) := by decide +kernel
theorem dX6_perform_7 : decode cX6_perform 7 = .ok (.iload_n 1, 1) := by decide +kernel
theorem dX6_perform_8 : decode cX6_perform 8 = .ok (.iaload, 1) := by decide +kernel
theorem dX6_perform_9 : decode cX6_perform 9 = .ok (.istore_n 2, 1) := by decide +kernel
theorem dX6_perform_10 : decode cX6_perform 10 = .ok (.aload_n 0, 1) := by decide +kernel
theorem dX6_perform_11 : decode cX6_perform 11 = .ok (.getfield 55, 3) := by decide +kernel
theorem dX6_perform_14 : decode cX6_perform 14 = .ok (.getfield 244, 3) := by decide +kernel
theorem dX6_perform_17 : decode cX6_perform 17 = .ok (.iload_n 1, 1) := by decide +kernel
theorem dX6_perform_18 : decode cX6_perform 18 = .ok (.iaload, 1) := by decide +kernel
theorem dX6_perform_19 : decode cX6_perform 19 = .ok (.istore_n 3, 1) := by decide +kernel
theorem dX6_perform_20 : decode cX6_perform 20 = .ok (.aload_n 0, 1) := by decide +kernel
theorem dX6_perform_21 : decode cX6_perform 21 = .ok (.getfield 55, 3) := by decide +kernel
theorem dX6_perform_24 : decode cX6_perform 24 = .ok (.getfield 247, 3) := by decide +kernel
theorem dX6_perform_27 : decode cX6_perform 27 = .ok (.iload_n 1, 1) := by decide +kernel
theorem dX6_perform_28 : decode cX6_perform 28 = .ok (.iaload, 1) := by decide +kernel
theorem dX6_perform_29 : decode cX6_perform 29 = .ok (.tableswitch 138 102 119 #[108, 138, 138, 138, 138, 138, 138, 138, 87, 138, 124, 138, 94, 138, 138, 131, 138, 101], 87) := by decide +kernel
theorem dX6_perform_116 : decode cX6_perform 116 = .ok (.aload_n 0, 1) := by decide +kernel
theorem dX6_perform_117 : decode cX6_perform 117 = .ok (.iload_n 2, 1) := by decide +kernel
theorem dX6_perform_118 : decode cX6_perform 118 = .ok (.iload_n 3, 1) := by decide +kernel
theorem dX6_perform_119 : decode cX6_perform 119 = .ok (.invokevirtual 250, 3) := by decide +kernel
theorem dX6_perform_122 : decode cX6_perform 122 = .ok (.ireturn, 1) := by decide +kernel
theorem dX6_perform_123 : decode cX6_perform 123 = .ok (.aload_n 0, 1) := by decide +kernel
theorem dX6_perform_124 : decode cX6_perform 124 = .ok (.iload_n 2, 1) := by decide +kernel
theorem dX6_perform_125 : decode cX6_perform 125 = .ok (.iload_n 3, 1) := by decide +kernel
theorem dX6_perform_126 : decode cX6_perform 126 = .ok (.invokevirtual 253, 3) := by decide +kernel
theorem dX6_perform_129 : decode cX6_perform 129 = .ok (.ireturn, 1) := by decide +kernel
theorem dX6_perform_130 : decode cX6_perform 130 = .ok (.aload_n 0, 1) := by decide +kernel
theorem dX6_perform_131 : decode cX6_perform 131 = .ok (.iload_n 2, 1) := by decide +kernel
theorem dX6_perform_132 : decode cX6_perform 132 = .ok (.iload_n 3, 1) := by decide +kernel
theorem dX6_perform_133 : decode cX6_perform 133 = .ok (.invokevirtual 256, 3) := by decide +kernel
theorem dX6_perform_136 : decode cX6_perform 136 = .ok (.ireturn, 1) := by decide +kernel
theorem dX6_perform_137 : decode cX6_perform 137 = .ok (.aload_n 0, 1) := by decide +kernel
theorem dX6_perform_138 : decode cX6_perform 138 = .ok (.iload_n 2, 1) := by decide +kernel
theorem dX6_perform_139 : decode cX6_perform 139 = .ok (.iload_n 3, 1) := by decide +kernel
theorem dX6_perform_140 : decode cX6_perform 140 = .ok (.aload_n 0, 1) := by decide +kernel
theorem dX6_perform_141 : decode cX6_perform 141 = .ok (.getfield 55, 3) := by decide +kernel
theorem dX6_perform_144 : decode cX6_perform 144 = .ok (.getfield 259, 3) := by decide +kernel
theorem dX6_perform_147 : decode cX6_perform 147 = .ok (.iload_n 1, 1) := by decide +kernel
theorem dX6_perform_148 : decode cX6_perform 148 = .ok (.iaload, 1) := by decide +kernel
theorem dX6_perform_149 : decode cX6_perform 149 = .ok (.invokevirtual 262, 3) := by decide +kernel
theorem dX6_perform_152 : decode cX6_perform 152 = .ok (.ireturn, 1) := by decide +kernel
theorem dX6_perform_153 : decode cX6_perform 153 = .ok (.aload_n 0, 1) := by decide +kernel
theorem dX6_perform_154 : decode cX6_perform 154 = .ok (.iload_n 2, 1) := by decide +kernel
theorem dX6_perform_155 : decode cX6_perform 155 = .ok (.iconst 1, 1) := by decide +kernel
theorem dX6_perform_156 : decode cX6_perform 156 = .ok (.invokevirtual 266, 3) := by decide +kernel
theorem dX6_perform_159 : decode cX6_perform 159 = .ok (.ireturn, 1) := by decide +kernel
theorem dX6_perform_160 : decode cX6_perform 160 = .ok (.aload_n 0, 1) := by decide +kernel
theorem dX6_perform_161 : decode cX6_perform 161 = .ok (.iload_n 2, 1) := by decide +kernel
theorem dX6_perform_162 : decode cX6_perform 162 = .ok (.iconst 0, 1) := by decide +kernel
theorem dX6_perform_163 : decode cX6_perform 163 = .ok (.invokevirtual 266, 3) := by decide +kernel
theorem dX6_perform_166 : decode cX6_perform 166 = .ok (.ireturn, 1) := by decide +kernel
theorem dX6_perform_167 : decode cX6_perform 167 = .ok (.aload_n 0, 1) := by decide +kernel
theorem dX6_perform_168 : decode cX6_perform 168 = .ok (.invokevirtual 270, 3) := by decide +kernel
theorem dX6_perform_171 : decode cX6_perform 171 = .ok (.ireturn, 1) := by decide +kernel
