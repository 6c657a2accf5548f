set_option maxRecDepth 20000 in
theorem ggX7_init_X7_begins : GoodIn wsX7_init wsX7_begins := goodIn_r _ [20, 5, 21, 22, 23, 24, 25, 26, 27, 28, 29, 30, 31, 32, 33, 34, 35, 36, 37, 38] (by decide +kernel) (by decide +kernel)
set_option maxRecDepth 20000 in
theorem gX7_init_X7_begins : GoodIn wsX7_init (wsV RX7 42 RX7 yX7_begins wsX7_begins) := goodIn_app (goodIn_of _ (by decide +kernel)) ggX7_init_X7_begins
set_option maxRecDepth 20000 in
theorem ggX7_reset_X7_in : GoodIn wsX7_reset wsX7_in := goodIn_r _ [5] (by decide +kernel) (by decide +kernel)
set_option maxRecDepth 20000 in
theorem gX7_reset_X7_in : GoodIn wsX7_reset (va_wsS RX7 46 yX7_in wsX7_in) := goodIn_app (goodIn_of _ (by decide +kernel)) ggX7_reset_X7_in
set_option maxRecDepth 20000 in
theorem ggX7_reset_X7_begins : GoodIn wsX7_reset wsX7_begins := goodIn_r _ [9, 10, 11, 12, 13, 14, 15, 16, 17, 18, 19, 20, 21, 22, 23, 24, 25, 26, 27, 28] (by decide +kernel) (by decide +kernel)
set_option maxRecDepth 20000 in
theorem gX7_reset_X7_begins : GoodIn wsX7_reset (wsV RX7 42 RX7 yX7_begins wsX7_begins) := goodIn_app (goodIn_of _ (by decide +kernel)) ggX7_reset_X7_begins
set_option maxRecDepth 20000 in
theorem ggX7_objectOf_X7_in : GoodIn wsX7_objectOf wsX7_in := goodIn_r _ [5] (by decide +kernel) (by decide +kernel)
set_option maxRecDepth 20000 in
theorem gX7_objectOf_X7_in : GoodIn wsX7_objectOf (va_wsS RX7 46 yX7_in wsX7_in) := goodIn_app (goodIn_of _ (by decide +kernel)) ggX7_objectOf_X7_in
set_option maxRecDepth 20000 in
theorem ggX7_isReference_X7_objectOf : GoodIn wsX7_isReference wsX7_objectOf := goodIn_r _ [5, 6, 7, 8, 4, 9, 10, 11, 12, 13, 14, 15, 16, 17, 18, 19, 20, 21, 22, 23, 24, 25, 26, 27] (by decide +kernel) (by decide +kernel)
set_option maxRecDepth 20000 in
theorem gX7_isReference_X7_objectOf : GoodIn wsX7_isReference (wsV RX7 51 RX7 yX7_objectOf wsX7_objectOf) := goodIn_app (goodIn_of _ (by decide +kernel)) ggX7_isReference_X7_objectOf
set_option maxRecDepth 20000 in
theorem ggX7_alloc_X7_in : GoodIn wsX7_alloc wsX7_in := goodIn_r _ [7] (by decide +kernel) (by decide +kernel)
set_option maxRecDepth 20000 in
theorem gX7_alloc_X7_in : GoodIn wsX7_alloc (va_wsS RX7 46 yX7_in wsX7_in) := goodIn_app (goodIn_of _ (by decide +kernel)) ggX7_alloc_X7_in
set_option maxRecDepth 20000 in
theorem ggX7_alloc_X7_lays : GoodIn wsX7_alloc wsX7_lays := goodIn_r _ [11, 2, 12, 13, 14, 15, 16, 17, 18, 19, 20, 21, 22, 23, 24, 25, 26, 27, 28, 29] (by decide +kernel) (by decide +kernel)
set_option maxRecDepth 20000 in
theorem gX7_alloc_X7_lays : GoodIn wsX7_alloc (wsV RX7 55 RX7 yX7_lays wsX7_lays) := goodIn_app (goodIn_of _ (by decide +kernel)) ggX7_alloc_X7_lays
set_option maxRecDepth 20000 in
theorem ggX7_referring_X7_objectOf : GoodIn wsX7_referring wsX7_objectOf := goodIn_r _ [6, 1, 7, 8, 5, 9, 10, 11, 12, 13, 14, 15, 16, 17, 18, 19, 20, 21, 22, 23, 24, 25, 26, 27] (by decide +kernel) (by decide +kernel)
set_option maxRecDepth 20000 in
theorem gX7_referring_X7_objectOf : GoodIn wsX7_referring (wsV RX7 51 RX7 yX7_objectOf wsX7_objectOf) := goodIn_app (goodIn_of _ (by decide +kernel)) ggX7_referring_X7_objectOf
set_option maxRecDepth 20000 in
theorem ggX7_starts_X7_objectOf : GoodIn wsX7_starts wsX7_objectOf := goodIn_r _ [6, 7, 8, 9, 5, 10, 11, 12, 13, 14, 15, 16, 17, 18, 19, 20, 21, 22, 23, 24, 25, 26, 27, 28] (by decide +kernel) (by decide +kernel)
set_option maxRecDepth 20000 in
theorem gX7_starts_X7_objectOf : GoodIn wsX7_starts (wsV RX7 51 RX7 yX7_objectOf wsX7_objectOf) := goodIn_app (goodIn_of _ (by decide +kernel)) ggX7_starts_X7_objectOf
set_option maxRecDepth 20000 in
theorem ggX7_reaches_X7_starts : GoodIn wsX7_reaches wsX7_starts := goodIn_r _ [7, 1, 8, 9, 10, 6, 11, 2, 12, 13, 14, 15, 16, 17, 18, 19, 20, 21, 22, 23, 24, 25, 26, 27, 28, 29, 30, 31, 32] (by decide +kernel) (by decide +kernel)
set_option maxRecDepth 20000 in
theorem gX7_reaches_X7_starts : GoodIn wsX7_reaches (wsV RX7 60 RX7 yX7_starts wsX7_starts) := goodIn_app (goodIn_of _ (by decide +kernel)) ggX7_reaches_X7_starts
set_option maxRecDepth 20000 in
theorem ggX7_reaches_X7_objectOf : GoodIn wsX7_reaches wsX7_objectOf := goodIn_r _ [11, 2, 12, 13, 6, 14, 15, 16, 17, 18, 19, 20, 21, 22, 23, 24, 25, 26, 27, 28, 29, 30, 31, 32] (by decide +kernel) (by decide +kernel)
set_option maxRecDepth 20000 in
theorem gX7_reaches_X7_objectOf : GoodIn wsX7_reaches (wsV RX7 51 RX7 yX7_objectOf wsX7_objectOf) := goodIn_app (goodIn_of _ (by decide +kernel)) ggX7_reaches_X7_objectOf
set_option maxRecDepth 20000 in
theorem ggX7_object_X7_objectOf : GoodIn wsX7_object wsX7_objectOf := goodIn_r _ [8, 2, 9, 10, 7, 11, 28, 29, 30, 31, 32, 33, 34, 35, 36, 37, 38, 39, 40, 41, 42, 43, 44, 45] (by decide +kernel) (by decide +kernel)
set_option maxRecDepth 20000 in
theorem gX7_object_X7_objectOf : GoodIn wsX7_object (wsV RX7 51 RX7 yX7_objectOf wsX7_objectOf) := goodIn_app (goodIn_of _ (by decide +kernel)) ggX7_object_X7_objectOf
set_option maxRecDepth 20000 in
theorem ggX7_object_X7_in : GoodIn wsX7_object wsX7_in := goodIn_r _ [11] (by decide +kernel) (by decide +kernel)
set_option maxRecDepth 20000 in
theorem gX7_object_X7_in : GoodIn wsX7_object (va_wsS RX7 46 yX7_in wsX7_in) := goodIn_app (goodIn_of _ (by decide +kernel)) ggX7_object_X7_in
set_option maxRecDepth 20000 in
theorem ggX7_object_X7_dataOf : GoodIn wsX7_object wsX7_dataOf := goodIn_r _ [15, 2, 28, 29, 30, 31, 32, 33, 34, 35, 36, 37, 38, 39, 40, 41, 42, 43, 44, 45] (by decide +kernel) (by decide +kernel)
set_option maxRecDepth 20000 in
theorem gX7_object_X7_dataOf : GoodIn wsX7_object (wsV RX7 63 RX7 yX7_dataOf wsX7_dataOf) := goodIn_app (goodIn_of _ (by decide +kernel)) ggX7_object_X7_dataOf
set_option maxRecDepth 20000 in
theorem ggX7_object_X7_referring : GoodIn wsX7_object wsX7_referring := goodIn_r _ [19, 2, 4, 5, 6, 7, 8, 9, 10, 11, 28, 29, 30, 31, 32, 33, 34, 35, 36, 37, 38, 39, 40, 41, 42, 43, 44, 45] (by decide +kernel) (by decide +kernel)
set_option maxRecDepth 20000 in
theorem gX7_object_X7_referring : GoodIn wsX7_object (wsV RX7 66 RX7 yX7_referring wsX7_referring) := goodIn_app (goodIn_of _ (by decide +kernel)) ggX7_object_X7_referring
set_option maxRecDepth 20000 in
theorem ggX7_object_X7_reaches : GoodIn wsX7_object wsX7_reaches := goodIn_r _ [23, 3, 2, 24, 25, 26, 7, 27, 4, 5, 6, 8, 9, 10, 11, 28, 29, 30, 31, 32, 33, 34, 35, 36, 37, 38, 39, 40, 41, 42, 43, 44, 45] (by decide +kernel) (by decide +kernel)
set_option maxRecDepth 20000 in
theorem gX7_object_X7_reaches : GoodIn wsX7_object (wsV RX7 69 RX7 yX7_reaches wsX7_reaches) := goodIn_app (goodIn_of _ (by decide +kernel)) ggX7_object_X7_reaches
set_option maxRecDepth 20000 in
theorem ggX7_next_X7_objectFrom : GoodIn wsX7_next wsX7_objectFrom := goodIn_r _ [6, 7, 15, 16, 17, 18, 19, 20, 21, 22, 23, 24, 25, 26, 27, 28, 29, 30, 31, 32] (by decide +kernel) (by decide +kernel)
set_option maxRecDepth 20000 in
theorem gX7_next_X7_objectFrom : GoodIn wsX7_next (wsV RX7 73 RX7 yX7_objectFrom wsX7_objectFrom) := goodIn_app (goodIn_of _ (by decide +kernel)) ggX7_next_X7_objectFrom
set_option maxRecDepth 20000 in
theorem ggX7_next_X7_objectOf : GoodIn wsX7_next wsX7_objectOf := goodIn_r _ [11, 7, 12, 13, 5, 14, 15, 16, 17, 18, 19, 20, 21, 22, 23, 24, 25, 26, 27, 28, 29, 30, 31, 32] (by decide +kernel) (by decide +kernel)
set_option maxRecDepth 20000 in
theorem gX7_next_X7_objectOf : GoodIn wsX7_next (wsV RX7 51 RX7 yX7_objectOf wsX7_objectOf) := goodIn_app (goodIn_of _ (by decide +kernel)) ggX7_next_X7_objectOf
set_option maxRecDepth 20000 in
theorem ggX7_setField_X7_objectOf : GoodIn wsX7_setField wsX7_objectOf := goodIn_r _ [7, 1, 8, 9, 6, 10, 15, 16, 17, 18, 19, 20, 21, 22, 23, 24, 25, 26, 27, 28, 29, 30, 31, 32] (by decide +kernel) (by decide +kernel)
set_option maxRecDepth 20000 in
theorem gX7_setField_X7_objectOf : GoodIn wsX7_setField (wsV RX7 51 RX7 yX7_objectOf wsX7_objectOf) := goodIn_app (goodIn_of _ (by decide +kernel)) ggX7_setField_X7_objectOf
set_option maxRecDepth 20000 in
theorem ggX7_setField_X7_in : GoodIn wsX7_setField wsX7_in := goodIn_r _ [10] (by decide +kernel) (by decide +kernel)
set_option maxRecDepth 20000 in
theorem gX7_setField_X7_in : GoodIn wsX7_setField (va_wsS RX7 46 yX7_in wsX7_in) := goodIn_app (goodIn_of _ (by decide +kernel)) ggX7_setField_X7_in
set_option maxRecDepth 20000 in
theorem ggX7_setField_X7_isReference : GoodIn wsX7_setField wsX7_isReference := goodIn_r _ [14, 3, 4, 5, 6, 7, 1, 8, 9, 10, 15, 16, 17, 18, 19, 20, 21, 22, 23, 24, 25, 26, 27, 28, 29, 30, 31, 32] (by decide +kernel) (by decide +kernel)
set_option maxRecDepth 20000 in
theorem gX7_setField_X7_isReference : GoodIn wsX7_setField (wsV RX7 76 RX7 yX7_isReference wsX7_isReference) := goodIn_app (goodIn_of _ (by decide +kernel)) ggX7_setField_X7_isReference
set_option maxRecDepth 20000 in
theorem ggX7_field_X7_objectOf : GoodIn wsX7_field wsX7_objectOf := goodIn_r _ [7, 1, 8, 9, 6, 10, 11, 12, 13, 14, 15, 16, 17, 18, 19, 20, 21, 22, 23, 24, 25, 26, 27, 28] (by decide +kernel) (by decide +kernel)
set_option maxRecDepth 20000 in
theorem gX7_field_X7_objectOf : GoodIn wsX7_field (wsV RX7 51 RX7 yX7_objectOf wsX7_objectOf) := goodIn_app (goodIn_of _ (by decide +kernel)) ggX7_field_X7_objectOf
set_option maxRecDepth 20000 in
theorem ggX7_field_X7_in : GoodIn wsX7_field wsX7_in := goodIn_r _ [10] (by decide +kernel) (by decide +kernel)
set_option maxRecDepth 20000 in
theorem gX7_field_X7_in : GoodIn wsX7_field (va_wsS RX7 46 yX7_in wsX7_in) := goodIn_app (goodIn_of _ (by decide +kernel)) ggX7_field_X7_in
set_option maxRecDepth 20000 in
theorem ggX7_setData_X7_objectOf : GoodIn wsX7_setData wsX7_objectOf := goodIn_r _ [9, 4, 10, 11, 8, 12, 17, 18, 19, 20, 21, 22, 23, 24, 25, 26, 27, 28, 29, 30, 31, 32, 33, 34] (by decide +kernel) (by decide +kernel)
set_option maxRecDepth 20000 in
theorem gX7_setData_X7_objectOf : GoodIn wsX7_setData (wsV RX7 51 RX7 yX7_objectOf wsX7_objectOf) := goodIn_app (goodIn_of _ (by decide +kernel)) ggX7_setData_X7_objectOf
set_option maxRecDepth 20000 in
theorem ggX7_setData_X7_dataOf : GoodIn wsX7_setData wsX7_dataOf := goodIn_r _ [16, 4, 17, 18, 19, 20, 21, 22, 23, 24, 25, 26, 27, 28, 29, 30, 31, 32, 33, 34] (by decide +kernel) (by decide +kernel)
set_option maxRecDepth 20000 in
theorem gX7_setData_X7_dataOf : GoodIn wsX7_setData (wsV RX7 63 RX7 yX7_dataOf wsX7_dataOf) := goodIn_app (goodIn_of _ (by decide +kernel)) ggX7_setData_X7_dataOf
set_option maxRecDepth 20000 in
theorem ggX7_setData_X7_in : GoodIn wsX7_setData wsX7_in := goodIn_r _ [12] (by decide +kernel) (by decide +kernel)
set_option maxRecDepth 20000 in
theorem gX7_setData_X7_in : GoodIn wsX7_setData (va_wsS RX7 46 yX7_in wsX7_in) := goodIn_app (goodIn_of _ (by decide +kernel)) ggX7_setData_X7_in
set_option maxRecDepth 20000 in
theorem ggX7_data_X7_objectOf : GoodIn wsX7_data wsX7_objectOf := goodIn_r _ [7, 2, 8, 9, 6, 10, 15, 16, 17, 18, 19, 20, 21, 22, 23, 24, 25, 26, 27, 28, 29, 30, 31, 32] (by decide +kernel) (by decide +kernel)
set_option maxRecDepth 20000 in
theorem gX7_data_X7_objectOf : GoodIn wsX7_data (wsV RX7 51 RX7 yX7_objectOf wsX7_objectOf) := goodIn_app (goodIn_of _ (by decide +kernel)) ggX7_data_X7_objectOf
set_option maxRecDepth 20000 in
theorem ggX7_data_X7_dataOf : GoodIn wsX7_data wsX7_dataOf := goodIn_r _ [14, 2, 15, 16, 17, 18, 19, 20, 21, 22, 23, 24, 25, 26, 27, 28, 29, 30, 31, 32] (by decide +kernel) (by decide +kernel)
set_option maxRecDepth 20000 in
theorem gX7_data_X7_dataOf : GoodIn wsX7_data (wsV RX7 63 RX7 yX7_dataOf wsX7_dataOf) := goodIn_app (goodIn_of _ (by decide +kernel)) ggX7_data_X7_dataOf
set_option maxRecDepth 20000 in
theorem ggX7_data_X7_in : GoodIn wsX7_data wsX7_in := goodIn_r _ [10] (by decide +kernel) (by decide +kernel)
set_option maxRecDepth 20000 in
theorem gX7_data_X7_in : GoodIn wsX7_data (va_wsS RX7 46 yX7_in wsX7_in) := goodIn_app (goodIn_of _ (by decide +kernel)) ggX7_data_X7_in
set_option maxRecDepth 20000 in
theorem ggX7_pin_X7_objectOf : GoodIn wsX7_pin wsX7_objectOf := goodIn_r _ [8, 2, 9, 10, 7, 11, 16, 17, 18, 19, 20, 21, 22, 23, 24, 25, 26, 27, 28, 29, 30, 31, 32, 33] (by decide +kernel) (by decide +kernel)
set_option maxRecDepth 20000 in
theorem gX7_pin_X7_objectOf : GoodIn wsX7_pin (wsV RX7 51 RX7 yX7_objectOf wsX7_objectOf) := goodIn_app (goodIn_of _ (by decide +kernel)) ggX7_pin_X7_objectOf
set_option maxRecDepth 20000 in
theorem ggX7_pin_X7_many : GoodIn wsX7_pin wsX7_many := goodIn_r _ [15, 2, 16, 17, 18, 19, 20, 21, 22, 23, 24, 25, 26, 27, 28, 29, 30, 31, 32, 33] (by decide +kernel) (by decide +kernel)
set_option maxRecDepth 20000 in
theorem gX7_pin_X7_many : GoodIn wsX7_pin (wsV RX7 83 RX7 yX7_many wsX7_many) := goodIn_app (goodIn_of _ (by decide +kernel)) ggX7_pin_X7_many
set_option maxRecDepth 20000 in
theorem ggX7_setRoot_X7_in : GoodIn wsX7_setRoot wsX7_in := goodIn_r _ [5] (by decide +kernel) (by decide +kernel)
set_option maxRecDepth 20000 in
theorem gX7_setRoot_X7_in : GoodIn wsX7_setRoot (va_wsS RX7 46 yX7_in wsX7_in) := goodIn_app (goodIn_of _ (by decide +kernel)) ggX7_setRoot_X7_in
set_option maxRecDepth 20000 in
theorem ggX7_setRoot_X7_isReference : GoodIn wsX7_setRoot wsX7_isReference := goodIn_r _ [9, 10, 11, 12, 4, 13, 14, 2, 3, 5, 19, 20, 21, 22, 23, 24, 25, 26, 27, 28, 29, 30, 31, 32, 33, 34, 35, 36] (by decide +kernel) (by decide +kernel)
set_option maxRecDepth 20000 in
theorem gX7_setRoot_X7_isReference : GoodIn wsX7_setRoot (wsV RX7 76 RX7 yX7_isReference wsX7_isReference) := goodIn_app (goodIn_of _ (by decide +kernel)) ggX7_setRoot_X7_isReference
set_option maxRecDepth 20000 in
theorem ggX7_setRoot_X7_setsSlot : GoodIn wsX7_setRoot wsX7_setsSlot := goodIn_r _ [18, 14, 19, 20, 21, 22, 23, 24, 25, 26, 27, 28, 29, 30, 31, 32, 33, 34, 35, 36] (by decide +kernel) (by decide +kernel)
set_option maxRecDepth 20000 in
theorem gX7_setRoot_X7_setsSlot : GoodIn wsX7_setRoot (wsV RX7 87 RX7 yX7_setsSlot wsX7_setsSlot) := goodIn_app (goodIn_of _ (by decide +kernel)) ggX7_setRoot_X7_setsSlot
set_option maxRecDepth 20000 in
theorem ggX7_root_X7_in : GoodIn wsX7_root wsX7_in := goodIn_r _ [6] (by decide +kernel) (by decide +kernel)
set_option maxRecDepth 20000 in
theorem gX7_root_X7_in : GoodIn wsX7_root (va_wsS RX7 46 yX7_in wsX7_in) := goodIn_app (goodIn_of _ (by decide +kernel)) ggX7_root_X7_in
set_option maxRecDepth 20000 in
theorem ggX7_setWeak_X7_in : GoodIn wsX7_setWeak wsX7_in := goodIn_r _ [5] (by decide +kernel) (by decide +kernel)
set_option maxRecDepth 20000 in
theorem gX7_setWeak_X7_in : GoodIn wsX7_setWeak (va_wsS RX7 46 yX7_in wsX7_in) := goodIn_app (goodIn_of _ (by decide +kernel)) ggX7_setWeak_X7_in
set_option maxRecDepth 20000 in
theorem ggX7_setWeak_X7_isReference : GoodIn wsX7_setWeak wsX7_isReference := goodIn_r _ [9, 10, 11, 12, 4, 13, 14, 2, 3, 5, 19, 20, 21, 22, 23, 24, 25, 26, 27, 28, 29, 30, 31, 32, 33, 34, 35, 36] (by decide +kernel) (by decide +kernel)
set_option maxRecDepth 20000 in
theorem gX7_setWeak_X7_isReference : GoodIn wsX7_setWeak (wsV RX7 76 RX7 yX7_isReference wsX7_isReference) := goodIn_app (goodIn_of _ (by decide +kernel)) ggX7_setWeak_X7_isReference
set_option maxRecDepth 20000 in
theorem ggX7_setWeak_X7_setsSlot : GoodIn wsX7_setWeak wsX7_setsSlot := goodIn_r _ [18, 14, 19, 20, 21, 22, 23, 24, 25, 26, 27, 28, 29, 30, 31, 32, 33, 34, 35, 36] (by decide +kernel) (by decide +kernel)
set_option maxRecDepth 20000 in
theorem gX7_setWeak_X7_setsSlot : GoodIn wsX7_setWeak (wsV RX7 87 RX7 yX7_setsSlot wsX7_setsSlot) := goodIn_app (goodIn_of _ (by decide +kernel)) ggX7_setWeak_X7_setsSlot
set_option maxRecDepth 20000 in
theorem ggX7_weak_X7_in : GoodIn wsX7_weak wsX7_in := goodIn_r _ [6] (by decide +kernel) (by decide +kernel)
set_option maxRecDepth 20000 in
theorem gX7_weak_X7_in : GoodIn wsX7_weak (va_wsS RX7 46 yX7_in wsX7_in) := goodIn_app (goodIn_of _ (by decide +kernel)) ggX7_weak_X7_in
set_option maxRecDepth 20000 in
theorem ggX7_reach_X7_objectOf : GoodIn wsX7_reach wsX7_objectOf := goodIn_r _ [11, 3, 12, 13, 10, 14, 15, 16, 17, 18, 19, 20, 21, 22, 23, 24, 25, 26, 27, 28, 29, 30, 31, 32] (by decide +kernel) (by decide +kernel)
set_option maxRecDepth 20000 in
theorem gX7_reach_X7_objectOf : GoodIn wsX7_reach (wsV RX7 51 RX7 yX7_objectOf wsX7_objectOf) := goodIn_app (goodIn_of _ (by decide +kernel)) ggX7_reach_X7_objectOf
set_option maxRecDepth 20000 in
theorem ggX7_drains_X7_reach : GoodIn wsX7_drains wsX7_reach := goodIn_r _ [8, 9, 1, 3, 10, 2, 11, 12, 13, 14, 7, 15, 16, 17, 18, 19, 20, 21, 22, 23, 24, 25, 26, 27, 28, 29, 30, 31, 32, 33, 34, 35, 36] (by decide +kernel) (by decide +kernel)
set_option maxRecDepth 20000 in
theorem gX7_drains_X7_reach : GoodIn wsX7_drains (wsV RX7 101 RX7 yX7_reach wsX7_reach) := goodIn_app (goodIn_of _ (by decide +kernel)) ggX7_drains_X7_reach
set_option maxRecDepth 20000 in
theorem ggX7_scans_X7_reach : GoodIn wsX7_scans wsX7_reach := goodIn_r _ [7, 2, 8, 1, 9, 10, 11, 12, 13, 14, 6, 15, 16, 17, 18, 23, 24, 25, 26, 27, 28, 29, 30, 31, 32, 33, 34, 35, 36, 37, 38, 39, 40] (by decide +kernel) (by decide +kernel)
set_option maxRecDepth 20000 in
theorem gX7_scans_X7_reach : GoodIn wsX7_scans (wsV RX7 101 RX7 yX7_reach wsX7_reach) := goodIn_app (goodIn_of _ (by decide +kernel)) ggX7_scans_X7_reach
set_option maxRecDepth 20000 in
theorem ggX7_scans_X7_drains : GoodIn wsX7_scans wsX7_drains := goodIn_r _ [22, 8, 10, 1, 3, 4, 5, 6, 7, 2, 9, 11, 12, 13, 14, 15, 16, 17, 18, 23, 24, 25, 26, 27, 28, 29, 30, 31, 32, 33, 34, 35, 36, 37, 38, 39, 40] (by decide +kernel) (by decide +kernel)
set_option maxRecDepth 20000 in
theorem gX7_scans_X7_drains : GoodIn wsX7_scans (wsV RX7 104 RX7 yX7_drains wsX7_drains) := goodIn_app (goodIn_of _ (by decide +kernel)) ggX7_scans_X7_drains
set_option maxRecDepth 20000 in
theorem ggX7_marks_X7_reach : GoodIn wsX7_marks wsX7_reach := goodIn_r _ [10, 1, 2, 5, 4, 11, 3, 12, 13, 14, 9, 15, 16, 17, 18, 27, 28, 29, 30, 31, 32, 33, 34, 35, 36, 37, 38, 39, 40, 41, 42, 43, 44] (by decide +kernel) (by decide +kernel)
set_option maxRecDepth 20000 in
theorem gX7_marks_X7_reach : GoodIn wsX7_marks (wsV RX7 101 RX7 yX7_reach wsX7_reach) := goodIn_app (goodIn_of _ (by decide +kernel)) ggX7_marks_X7_reach
set_option maxRecDepth 20000 in
theorem ggX7_marks_X7_drains : GoodIn wsX7_marks wsX7_drains := goodIn_r _ [22, 2, 11, 5, 6, 7, 8, 9, 10, 1, 4, 3, 12, 13, 14, 15, 16, 17, 18, 27, 28, 29, 30, 31, 32, 33, 34, 35, 36, 37, 38, 39, 40, 41, 42, 43, 44] (by decide +kernel) (by decide +kernel)
set_option maxRecDepth 20000 in
theorem gX7_marks_X7_drains : GoodIn wsX7_marks (wsV RX7 104 RX7 yX7_drains wsX7_drains) := goodIn_app (goodIn_of _ (by decide +kernel)) ggX7_marks_X7_drains
set_option maxRecDepth 20000 in
theorem ggX7_marks_X7_scans : GoodIn wsX7_marks wsX7_scans := goodIn_r _ [26, 5, 1, 6, 7, 8, 9, 10, 2, 4, 11, 3, 12, 13, 14, 15, 16, 17, 18, 19, 20, 21, 22, 27, 28, 29, 30, 31, 32, 33, 34, 35, 36, 37, 38, 39, 40, 41, 42, 43, 44] (by decide +kernel) (by decide +kernel)
set_option maxRecDepth 20000 in
theorem gX7_marks_X7_scans : GoodIn wsX7_marks (wsV RX7 107 RX7 yX7_scans wsX7_scans) := goodIn_app (goodIn_of _ (by decide +kernel)) ggX7_marks_X7_scans
set_option maxRecDepth 20000 in
theorem ggX7_collect_X7_occupied : GoodIn wsX7_collect wsX7_occupied := goodIn_r _ [9, 2, 44, 45, 46, 47, 48, 49, 50, 51, 52, 53, 54, 55, 56, 57, 58, 59, 60, 61] (by decide +kernel) (by decide +kernel)
set_option maxRecDepth 20000 in
theorem gX7_collect_X7_occupied : GoodIn wsX7_collect (wsV RX7 110 RX7 yX7_occupied wsX7_occupied) := goodIn_app (goodIn_of _ (by decide +kernel)) ggX7_collect_X7_occupied
set_option maxRecDepth 20000 in
theorem ggX7_collect_X7_marks : GoodIn wsX7_collect wsX7_marks := goodIn_r _ [13, 3, 14, 4, 15, 2, 16, 17, 18, 8, 19, 20, 21, 22, 23, 24, 25, 26, 27, 28, 29, 30, 31, 32, 33, 34, 35, 44, 45, 46, 47, 48, 49, 50, 51, 52, 53, 54, 55, 56, 57, 58, 59, 60, 61] (by decide +kernel) (by decide +kernel)
set_option maxRecDepth 20000 in
theorem gX7_collect_X7_marks : GoodIn wsX7_collect (wsV RX7 114 RX7 yX7_marks wsX7_marks) := goodIn_app (goodIn_of _ (by decide +kernel)) ggX7_collect_X7_marks
set_option maxRecDepth 20000 in
theorem ggX7_collect_X7_rebuilds : GoodIn wsX7_collect wsX7_rebuilds := goodIn_r _ [39, 2, 1, 3, 40, 41, 42, 8, 43, 44, 45, 46, 47, 48, 49, 50, 51, 52, 53, 54, 55, 56, 57, 58, 59, 60, 61] (by decide +kernel) (by decide +kernel)
set_option maxRecDepth 20000 in
theorem gX7_collect_X7_rebuilds : GoodIn wsX7_collect (wsV RX7 117 RX7 yX7_rebuilds wsX7_rebuilds) := goodIn_app (goodIn_of _ (by decide +kernel)) ggX7_collect_X7_rebuilds
set_option maxRecDepth 20000 in
theorem ggX7_rebuilds_X7_gone : GoodIn wsX7_rebuilds wsX7_gone := goodIn_r _ [8, 1, 9, 10, 11, 12, 13, 14, 15, 16, 17, 18, 19, 20, 21, 22, 23, 24, 25, 26] (by decide +kernel) (by decide +kernel)
set_option maxRecDepth 20000 in
theorem gX7_rebuilds_X7_gone : GoodIn wsX7_rebuilds (wsV RX7 120 RX7 yX7_gone wsX7_gone) := goodIn_app (goodIn_of _ (by decide +kernel)) ggX7_rebuilds_X7_gone
set_option maxRecDepth 20000 in
theorem ggX7_moved_X7_in : GoodIn wsX7_moved wsX7_in := goodIn_r _ [7] (by decide +kernel) (by decide +kernel)
set_option maxRecDepth 20000 in
theorem gX7_moved_X7_in : GoodIn wsX7_moved (va_wsS RX7 46 yX7_in wsX7_in) := goodIn_app (goodIn_of _ (by decide +kernel)) ggX7_moved_X7_in
set_option maxRecDepth 20000 in
theorem ggX7_report_X7_in : GoodIn wsX7_report wsX7_in := goodIn_r _ [7] (by decide +kernel) (by decide +kernel)
set_option maxRecDepth 20000 in
theorem gX7_report_X7_in : GoodIn wsX7_report (va_wsS RX7 46 yX7_in wsX7_in) := goodIn_app (goodIn_of _ (by decide +kernel)) ggX7_report_X7_in
set_option maxRecDepth 20000 in
theorem ggX7_garbage_X7_reaches : GoodIn wsX7_garbage wsX7_reaches := goodIn_r _ [5, 6, 7, 8, 9, 10, 4, 11, 12, 13, 14, 15, 16, 17, 18, 27, 28, 29, 30, 31, 32, 33, 34, 35, 36, 37, 38, 39, 40, 41, 42, 43, 44] (by decide +kernel) (by decide +kernel)
set_option maxRecDepth 20000 in
theorem gX7_garbage_X7_reaches : GoodIn wsX7_garbage (wsV RX7 69 RX7 yX7_reaches wsX7_reaches) := goodIn_app (goodIn_of _ (by decide +kernel)) ggX7_garbage_X7_reaches
set_option maxRecDepth 20000 in
theorem ggX7_garbage_X7_occupied : GoodIn wsX7_garbage wsX7_occupied := goodIn_r _ [22, 7, 27, 28, 29, 30, 31, 32, 33, 34, 35, 36, 37, 38, 39, 40, 41, 42, 43, 44] (by decide +kernel) (by decide +kernel)
set_option maxRecDepth 20000 in
theorem gX7_garbage_X7_occupied : GoodIn wsX7_garbage (wsV RX7 110 RX7 yX7_occupied wsX7_occupied) := goodIn_app (goodIn_of _ (by decide +kernel)) ggX7_garbage_X7_occupied
set_option maxRecDepth 20000 in
theorem ggX7_garbage_X7_reachedWords : GoodIn wsX7_garbage wsX7_reachedWords := goodIn_r _ [26, 7, 6, 27, 28, 29, 30, 31, 32, 33, 34, 35, 36, 37, 38, 39, 40, 41, 42, 43, 44] (by decide +kernel) (by decide +kernel)
set_option maxRecDepth 20000 in
theorem gX7_garbage_X7_reachedWords : GoodIn wsX7_garbage (wsV RX7 123 RX7 yX7_reachedWords wsX7_reachedWords) := goodIn_app (goodIn_of _ (by decide +kernel)) ggX7_garbage_X7_reachedWords
set_option maxRecDepth 20000 in
theorem ggX7_distance_X7_objectOf : GoodIn wsX7_distance wsX7_objectOf := goodIn_r _ [7, 8, 9, 10, 6, 11, 20, 21, 22, 23, 24, 25, 26, 27, 28, 29, 30, 31, 32, 33, 34, 35, 36, 37] (by decide +kernel) (by decide +kernel)
set_option maxRecDepth 20000 in
theorem gX7_distance_X7_objectOf : GoodIn wsX7_distance (wsV RX7 51 RX7 yX7_objectOf wsX7_objectOf) := goodIn_app (goodIn_of _ (by decide +kernel)) ggX7_distance_X7_objectOf
set_option maxRecDepth 20000 in
theorem ggX7_distance_X7_reaches : GoodIn wsX7_distance wsX7_reaches := goodIn_r _ [15, 2, 8, 16, 17, 18, 6, 19, 3, 4, 5, 7, 9, 10, 11, 20, 21, 22, 23, 24, 25, 26, 27, 28, 29, 30, 31, 32, 33, 34, 35, 36, 37] (by decide +kernel) (by decide +kernel)
set_option maxRecDepth 20000 in
theorem gX7_distance_X7_reaches : GoodIn wsX7_distance (wsV RX7 69 RX7 yX7_reaches wsX7_reaches) := goodIn_app (goodIn_of _ (by decide +kernel)) ggX7_distance_X7_reaches
set_option maxRecDepth 20000 in
theorem ggX7_retained_X7_objectOf : GoodIn wsX7_retained wsX7_objectOf := goodIn_r _ [7, 8, 9, 10, 6, 11, 24, 25, 26, 27, 28, 29, 30, 31, 32, 33, 34, 35, 36, 37, 38, 39, 40, 41] (by decide +kernel) (by decide +kernel)
set_option maxRecDepth 20000 in
theorem gX7_retained_X7_objectOf : GoodIn wsX7_retained (wsV RX7 51 RX7 yX7_objectOf wsX7_objectOf) := goodIn_app (goodIn_of _ (by decide +kernel)) ggX7_retained_X7_objectOf
set_option maxRecDepth 20000 in
theorem ggX7_retained_X7_reaches : GoodIn wsX7_retained wsX7_reaches := goodIn_r _ [15, 2, 8, 16, 17, 18, 6, 19, 3, 4, 5, 7, 9, 10, 11, 24, 25, 26, 27, 28, 29, 30, 31, 32, 33, 34, 35, 36, 37, 38, 39, 40, 41] (by decide +kernel) (by decide +kernel)
set_option maxRecDepth 20000 in
theorem gX7_retained_X7_reaches : GoodIn wsX7_retained (wsV RX7 69 RX7 yX7_reaches wsX7_reaches) := goodIn_app (goodIn_of _ (by decide +kernel)) ggX7_retained_X7_reaches
set_option maxRecDepth 20000 in
theorem ggX7_retained_X7_reachedWords : GoodIn wsX7_retained wsX7_reachedWords := goodIn_r _ [23, 8, 2, 24, 25, 26, 27, 28, 29, 30, 31, 32, 33, 34, 35, 36, 37, 38, 39, 40, 41] (by decide +kernel) (by decide +kernel)
set_option maxRecDepth 20000 in
theorem gX7_retained_X7_reachedWords : GoodIn wsX7_retained (wsV RX7 123 RX7 yX7_reachedWords wsX7_reachedWords) := goodIn_app (goodIn_of _ (by decide +kernel)) ggX7_retained_X7_reachedWords
set_option maxRecDepth 20000 in
theorem ggX7_free_X7_in : GoodIn wsX7_free wsX7_in := goodIn_r _ [6] (by decide +kernel) (by decide +kernel)
set_option maxRecDepth 20000 in
theorem gX7_free_X7_in : GoodIn wsX7_free (va_wsS RX7 46 yX7_in wsX7_in) := goodIn_app (goodIn_of _ (by decide +kernel)) ggX7_free_X7_in
set_option maxRecDepth 20000 in
theorem ggX7_type_X7_in : GoodIn wsX7_type wsX7_in := goodIn_r _ [8] (by decide +kernel) (by decide +kernel)
set_option maxRecDepth 20000 in
theorem gX7_type_X7_in : GoodIn wsX7_type (va_wsS RX7 46 yX7_in wsX7_in) := goodIn_app (goodIn_of _ (by decide +kernel)) ggX7_type_X7_in
set_option maxRecDepth 20000 in
theorem ggX7_blanks_X7_next_ : GoodIn wsX7_blanks wsX7_next_ := goodIn_r _ [6, 1, 7, 8, 9, 10, 11, 12, 13, 14, 15, 16, 17, 18, 19, 20, 21, 22, 23, 24, 25, 26] (by decide +kernel) (by decide +kernel)
set_option maxRecDepth 20000 in
theorem gX7_blanks_X7_next_ : GoodIn wsX7_blanks (wsV RX7 132 RX7 yX7_next_ wsX7_next_) := goodIn_app (goodIn_of _ (by decide +kernel)) ggX7_blanks_X7_next_
set_option maxRecDepth 20000 in
theorem ggX7_isDigit_X7_next_ : GoodIn wsX7_isDigit wsX7_next_ := goodIn_r _ [5, 6, 7, 8, 12, 13, 14, 15, 16, 17, 18, 19, 20, 21, 22, 23, 24, 25, 26, 27, 28, 29] (by decide +kernel) (by decide +kernel)
set_option maxRecDepth 20000 in
theorem gX7_isDigit_X7_next_ : GoodIn wsX7_isDigit (wsV RX7 132 RX7 yX7_next_ wsX7_next_) := goodIn_app (goodIn_of _ (by decide +kernel)) ggX7_isDigit_X7_next_
set_option maxRecDepth 20000 in
theorem ggX7_isDigit_X7_in : GoodIn wsX7_isDigit wsX7_in := goodIn_r _ [11] (by decide +kernel) (by decide +kernel)
set_option maxRecDepth 20000 in
theorem gX7_isDigit_X7_in : GoodIn wsX7_isDigit (va_wsS RX7 46 yX7_in wsX7_in) := goodIn_app (goodIn_of _ (by decide +kernel)) ggX7_isDigit_X7_in
set_option maxRecDepth 20000 in
theorem ggX7_digit_X7_next_ : GoodIn wsX7_digit wsX7_next_ := goodIn_r _ [7, 2, 8, 9, 25, 26, 27, 28, 29, 30, 31, 32, 33, 34, 35, 36, 37, 38, 39, 40, 41, 42] (by decide +kernel) (by decide +kernel)
set_option maxRecDepth 20000 in
theorem gX7_digit_X7_next_ : GoodIn wsX7_digit (wsV RX7 132 RX7 yX7_next_ wsX7_next_) := goodIn_app (goodIn_of _ (by decide +kernel)) ggX7_digit_X7_next_
set_option maxRecDepth 20000 in
theorem ggX7_digit_X7_isDigit : GoodIn wsX7_digit wsX7_isDigit := goodIn_r _ [13, 3, 4, 5, 6, 7, 2, 8, 9, 14, 15, 16, 25, 26, 27, 28, 29, 30, 31, 32, 33, 34, 35, 36, 37, 38, 39, 40, 41, 42] (by decide +kernel) (by decide +kernel)
set_option maxRecDepth 20000 in
theorem gX7_digit_X7_isDigit : GoodIn wsX7_digit (wsV RX7 138 RX7 yX7_isDigit wsX7_isDigit) := goodIn_app (goodIn_of _ (by decide +kernel)) ggX7_digit_X7_isDigit
set_option maxRecDepth 20000 in
theorem ggX7_digit_X7_fails : GoodIn wsX7_digit wsX7_fails := goodIn_r _ [20, 1, 2, 25, 26, 27, 28, 29, 30, 31, 32, 33, 34, 35, 36, 37, 38, 39, 40, 41, 42] (by decide +kernel) (by decide +kernel)
set_option maxRecDepth 20000 in
theorem gX7_digit_X7_fails : GoodIn wsX7_digit (wsV RX7 142 RX7 yX7_fails wsX7_fails) := goodIn_app (goodIn_of _ (by decide +kernel)) ggX7_digit_X7_fails
set_option maxRecDepth 20000 in
theorem ggX7_digit_X7_blanks : GoodIn wsX7_digit wsX7_blanks := goodIn_r _ [24, 2, 3, 4, 5, 6, 7, 8, 9, 25, 26, 27, 28, 29, 30, 31, 32, 33, 34, 35, 36, 37, 38, 39, 40, 41, 42] (by decide +kernel) (by decide +kernel)
set_option maxRecDepth 20000 in
theorem gX7_digit_X7_blanks : GoodIn wsX7_digit (wsV RX7 145 RX7 yX7_blanks wsX7_blanks) := goodIn_app (goodIn_of _ (by decide +kernel)) ggX7_digit_X7_blanks
set_option maxRecDepth 20000 in
theorem ggX7_number_X7_isDigit : GoodIn wsX7_number wsX7_isDigit := goodIn_r _ [7, 8, 9, 10, 6, 11, 1, 12, 13, 14, 15, 16, 25, 26, 27, 28, 29, 30, 31, 32, 33, 34, 35, 36, 37, 38, 39, 40, 41, 42] (by decide +kernel) (by decide +kernel)
set_option maxRecDepth 20000 in
theorem gX7_number_X7_isDigit : GoodIn wsX7_number (wsV RX7 138 RX7 yX7_isDigit wsX7_isDigit) := goodIn_app (goodIn_of _ (by decide +kernel)) ggX7_number_X7_isDigit
set_option maxRecDepth 20000 in
theorem ggX7_number_X7_next_ : GoodIn wsX7_number wsX7_next_ := goodIn_r _ [11, 1, 12, 13, 25, 26, 27, 28, 29, 30, 31, 32, 33, 34, 35, 36, 37, 38, 39, 40, 41, 42] (by decide +kernel) (by decide +kernel)
set_option maxRecDepth 20000 in
theorem gX7_number_X7_next_ : GoodIn wsX7_number (wsV RX7 132 RX7 yX7_next_ wsX7_next_) := goodIn_app (goodIn_of _ (by decide +kernel)) ggX7_number_X7_next_
set_option maxRecDepth 20000 in
theorem ggX7_number_X7_fails : GoodIn wsX7_number wsX7_fails := goodIn_r _ [20, 2, 1, 25, 26, 27, 28, 29, 30, 31, 32, 33, 34, 35, 36, 37, 38, 39, 40, 41, 42] (by decide +kernel) (by decide +kernel)
set_option maxRecDepth 20000 in
theorem gX7_number_X7_fails : GoodIn wsX7_number (wsV RX7 142 RX7 yX7_fails wsX7_fails) := goodIn_app (goodIn_of _ (by decide +kernel)) ggX7_number_X7_fails
set_option maxRecDepth 20000 in
theorem ggX7_number_X7_blanks : GoodIn wsX7_number wsX7_blanks := goodIn_r _ [24, 1, 8, 9, 10, 6, 11, 12, 13, 25, 26, 27, 28, 29, 30, 31, 32, 33, 34, 35, 36, 37, 38, 39, 40, 41, 42] (by decide +kernel) (by decide +kernel)
set_option maxRecDepth 20000 in
theorem gX7_number_X7_blanks : GoodIn wsX7_number (wsV RX7 145 RX7 yX7_blanks wsX7_blanks) := goodIn_app (goodIn_of _ (by decide +kernel)) ggX7_number_X7_blanks
set_option maxRecDepth 20000 in
theorem ggX7_place_X7_next_ : GoodIn wsX7_place wsX7_next_ := goodIn_r _ [7, 2, 8, 9, 29, 30, 31, 32, 33, 34, 35, 36, 37, 38, 39, 40, 41, 42, 43, 44, 45, 46] (by decide +kernel) (by decide +kernel)
set_option maxRecDepth 20000 in
theorem gX7_place_X7_next_ : GoodIn wsX7_place (wsV RX7 132 RX7 yX7_next_ wsX7_next_) := goodIn_app (goodIn_of _ (by decide +kernel)) ggX7_place_X7_next_
set_option maxRecDepth 20000 in
theorem ggX7_place_X7_blanks : GoodIn wsX7_place wsX7_blanks := goodIn_r _ [13, 2, 3, 4, 5, 6, 7, 8, 9, 29, 30, 31, 32, 33, 34, 35, 36, 37, 38, 39, 40, 41, 42, 43, 44, 45, 46] (by decide +kernel) (by decide +kernel)
set_option maxRecDepth 20000 in
theorem gX7_place_X7_blanks : GoodIn wsX7_place (wsV RX7 145 RX7 yX7_blanks wsX7_blanks) := goodIn_app (goodIn_of _ (by decide +kernel)) ggX7_place_X7_blanks
set_option maxRecDepth 20000 in
theorem ggX7_place_X7_number : GoodIn wsX7_place wsX7_number := goodIn_r _ [17, 2, 1, 18, 19, 20, 6, 21, 3, 4, 5, 7, 8, 9, 22, 23, 24, 25, 26, 27, 28, 10, 11, 12, 13, 29, 30, 31, 32, 33, 34, 35, 36, 37, 38, 39, 40, 41, 42, 43, 44, 45, 46] (by decide +kernel) (by decide +kernel)
set_option maxRecDepth 20000 in
theorem gX7_place_X7_number : GoodIn wsX7_place (wsV RX7 148 RX7 yX7_number wsX7_number) := goodIn_app (goodIn_of _ (by decide +kernel)) ggX7_place_X7_number
set_option maxRecDepth 20000 in
theorem ggX7_reads_X7_next_ : GoodIn wsX7_reads wsX7_next_ := goodIn_r _ [9, 3, 10, 11, 39, 40, 41, 42, 43, 44, 45, 46, 47, 48, 49, 50, 51, 52, 53, 54, 55, 56] (by decide +kernel) (by decide +kernel)
set_option maxRecDepth 20000 in
theorem gX7_reads_X7_next_ : GoodIn wsX7_reads (wsV RX7 132 RX7 yX7_next_ wsX7_next_) := goodIn_app (goodIn_of _ (by decide +kernel)) ggX7_reads_X7_next_
set_option maxRecDepth 20000 in
theorem ggX7_reads_X7_fails : GoodIn wsX7_reads wsX7_fails := goodIn_r _ [15, 4, 3, 39, 40, 41, 42, 43, 44, 45, 46, 47, 48, 49, 50, 51, 52, 53, 54, 55, 56] (by decide +kernel) (by decide +kernel)
set_option maxRecDepth 20000 in
theorem gX7_reads_X7_fails : GoodIn wsX7_reads (wsV RX7 142 RX7 yX7_fails wsX7_fails) := goodIn_app (goodIn_of _ (by decide +kernel)) ggX7_reads_X7_fails
set_option maxRecDepth 20000 in
theorem ggX7_reads_X7_blanks : GoodIn wsX7_reads wsX7_blanks := goodIn_r _ [19, 3, 5, 6, 7, 8, 9, 10, 11, 39, 40, 41, 42, 43, 44, 45, 46, 47, 48, 49, 50, 51, 52, 53, 54, 55, 56] (by decide +kernel) (by decide +kernel)
set_option maxRecDepth 20000 in
theorem gX7_reads_X7_blanks : GoodIn wsX7_reads (wsV RX7 145 RX7 yX7_blanks wsX7_blanks) := goodIn_app (goodIn_of _ (by decide +kernel)) ggX7_reads_X7_blanks
set_option maxRecDepth 20000 in
theorem ggX7_reads_X7_digit : GoodIn wsX7_reads wsX7_digit := goodIn_r _ [23, 4, 3, 5, 6, 7, 8, 9, 10, 11, 24, 25, 26, 27, 28, 29, 30, 12, 13, 14, 15, 16, 17, 18, 19, 39, 40, 41, 42, 43, 44, 45, 46, 47, 48, 49, 50, 51, 52, 53, 54, 55, 56] (by decide +kernel) (by decide +kernel)
set_option maxRecDepth 20000 in
theorem gX7_reads_X7_digit : GoodIn wsX7_reads (wsV RX7 154 RX7 yX7_digit wsX7_digit) := goodIn_app (goodIn_of _ (by decide +kernel)) ggX7_reads_X7_digit
set_option maxRecDepth 20000 in
theorem ggX7_reads_X7_place : GoodIn wsX7_reads wsX7_place := goodIn_r _ [34, 4, 3, 5, 6, 7, 8, 9, 10, 11, 16, 17, 18, 19, 35, 36, 37, 38, 24, 25, 26, 27, 28, 29, 30, 12, 13, 14, 15, 39, 40, 41, 42, 43, 44, 45, 46, 47, 48, 49, 50, 51, 52, 53, 54, 55, 56] (by decide +kernel) (by decide +kernel)
set_option maxRecDepth 20000 in
theorem gX7_reads_X7_place : GoodIn wsX7_reads (wsV RX7 157 RX7 yX7_place wsX7_place) := goodIn_app (goodIn_of _ (by decide +kernel)) ggX7_reads_X7_place
set_option maxRecDepth 20000 in
theorem ggX7_reads_X7_number : GoodIn wsX7_reads wsX7_number := goodIn_r _ [38, 3, 4, 24, 25, 26, 8, 27, 5, 6, 7, 9, 10, 11, 28, 29, 30, 12, 13, 14, 15, 16, 17, 18, 19, 39, 40, 41, 42, 43, 44, 45, 46, 47, 48, 49, 50, 51, 52, 53, 54, 55, 56] (by decide +kernel) (by decide +kernel)
set_option maxRecDepth 20000 in
theorem gX7_reads_X7_number : GoodIn wsX7_reads (wsV RX7 148 RX7 yX7_number wsX7_number) := goodIn_app (goodIn_of _ (by decide +kernel)) ggX7_reads_X7_number
set_option maxRecDepth 20000 in
theorem ggX7_fault_X7_blanks : GoodIn wsX7_fault wsX7_blanks := goodIn_r _ [9, 1, 10, 11, 12, 8, 13, 4, 14, 43, 44, 45, 46, 47, 48, 49, 50, 51, 52, 53, 54, 55, 56, 57, 58, 59, 60] (by decide +kernel) (by decide +kernel)
set_option maxRecDepth 20000 in
theorem gX7_fault_X7_blanks : GoodIn wsX7_fault (wsV RX7 145 RX7 yX7_blanks wsX7_blanks) := goodIn_app (goodIn_of _ (by decide +kernel)) ggX7_fault_X7_blanks
set_option maxRecDepth 20000 in
theorem ggX7_fault_X7_reads : GoodIn wsX7_fault wsX7_reads := goodIn_r _ [18, 2, 19, 1, 3, 10, 11, 12, 8, 13, 4, 14, 20, 21, 22, 23, 5, 6, 7, 9, 24, 25, 26, 27, 28, 29, 30, 31, 32, 33, 34, 35, 36, 37, 38, 39, 40, 41, 42, 43, 44, 45, 46, 47, 48, 49, 50, 51, 52, 53, 54, 55, 56, 57, 58, 59, 60] (by decide +kernel) (by decide +kernel)
set_option maxRecDepth 20000 in
theorem gX7_fault_X7_reads : GoodIn wsX7_fault (wsV RX7 160 RX7 yX7_reads wsX7_reads) := goodIn_app (goodIn_of _ (by decide +kernel)) ggX7_fault_X7_reads
set_option maxRecDepth 20000 in
theorem ggX7_does_X7_alloc : GoodIn wsX7_does wsX7_alloc := goodIn_r _ [6, 7, 8, 9, 10, 11, 5, 12, 13, 14, 15, 16, 88, 89, 90, 91, 92, 93, 94, 95, 96, 97, 98, 99, 100, 101, 102, 103, 104, 105] (by decide +kernel) (by decide +kernel)
set_option maxRecDepth 20000 in
theorem gX7_does_X7_alloc : GoodIn wsX7_does (wsV RX7 163 RX7 yX7_alloc wsX7_alloc) := goodIn_app (goodIn_of _ (by decide +kernel)) ggX7_does_X7_alloc
set_option maxRecDepth 20000 in
theorem ggX7_does_X7_setRoot : GoodIn wsX7_does wsX7_setRoot := goodIn_r _ [20, 7, 10, 11, 5, 12, 21, 22, 23, 24, 25, 26, 27, 28, 8, 29, 30, 31, 32, 88, 89, 90, 91, 92, 93, 94, 95, 96, 97, 98, 99, 100, 101, 102, 103, 104, 105] (by decide +kernel) (by decide +kernel)
set_option maxRecDepth 20000 in
theorem gX7_does_X7_setRoot : GoodIn wsX7_does (wsV RX7 166 RX7 yX7_setRoot wsX7_setRoot) := goodIn_app (goodIn_of _ (by decide +kernel)) ggX7_does_X7_setRoot
set_option maxRecDepth 20000 in
theorem ggX7_does_X7_setWeak : GoodIn wsX7_does wsX7_setWeak := goodIn_r _ [36, 7, 10, 11, 5, 12, 21, 22, 23, 24, 25, 26, 27, 28, 8, 29, 30, 31, 32, 88, 89, 90, 91, 92, 93, 94, 95, 96, 97, 98, 99, 100, 101, 102, 103, 104, 105] (by decide +kernel) (by decide +kernel)
set_option maxRecDepth 20000 in
theorem gX7_does_X7_setWeak : GoodIn wsX7_does (wsV RX7 169 RX7 yX7_setWeak wsX7_setWeak) := goodIn_app (goodIn_of _ (by decide +kernel)) ggX7_does_X7_setWeak
set_option maxRecDepth 20000 in
theorem ggX7_does_X7_setField : GoodIn wsX7_does wsX7_setField := goodIn_r _ [40, 8, 7, 25, 26, 27, 5, 28, 10, 11, 12, 21, 22, 23, 24, 88, 89, 90, 91, 92, 93, 94, 95, 96, 97, 98, 99, 100, 101, 102, 103, 104, 105] (by decide +kernel) (by decide +kernel)
set_option maxRecDepth 20000 in
theorem gX7_does_X7_setField : GoodIn wsX7_does (wsV RX7 172 RX7 yX7_setField wsX7_setField) := goodIn_app (goodIn_of _ (by decide +kernel)) ggX7_does_X7_setField
set_option maxRecDepth 20000 in
theorem ggX7_does_X7_pin : GoodIn wsX7_does wsX7_pin := goodIn_r _ [44, 7, 8, 45, 25, 26, 27, 5, 28, 10, 11, 12, 46, 47, 48, 49, 88, 89, 90, 91, 92, 93, 94, 95, 96, 97, 98, 99, 100, 101, 102, 103, 104, 105] (by decide +kernel) (by decide +kernel)
set_option maxRecDepth 20000 in
theorem gX7_does_X7_pin : GoodIn wsX7_does (wsV RX7 176 RX7 yX7_pin wsX7_pin) := goodIn_app (goodIn_of _ (by decide +kernel)) ggX7_does_X7_pin
set_option maxRecDepth 20000 in
theorem ggX7_does_X7_collect : GoodIn wsX7_does wsX7_collect := goodIn_r _ [53, 54, 8, 55, 56, 57, 58, 59, 5, 60, 61, 62, 63, 64, 65, 66, 67, 68, 69, 70, 71, 25, 26, 27, 28, 10, 11, 12, 72, 73, 74, 75, 76, 77, 78, 79, 80, 81, 82, 83, 84, 85, 86, 87, 88, 89, 90, 91, 92, 93, 94, 95, 96, 97, 98, 99, 100, 101, 102, 103, 104, 105] (by decide +kernel) (by decide +kernel)
set_option maxRecDepth 20000 in
theorem gX7_does_X7_collect : GoodIn wsX7_does (wsV RX7 180 RX7 yX7_collect wsX7_collect) := goodIn_app (goodIn_of _ (by decide +kernel)) ggX7_does_X7_collect
set_option maxRecDepth 20000 in
theorem ggX7_run_X7_fault : GoodIn wsX7_run wsX7_fault := goodIn_r _ [9, 10, 3, 11, 12, 13, 14, 15, 8, 16, 17, 18, 19, 20, 21, 22, 23, 24, 25, 26, 27, 28, 29, 30, 31, 32, 33, 34, 35, 36, 37, 38, 39, 40, 41, 42, 43, 44, 45, 46, 47, 48, 49, 134, 135, 136, 137, 138, 139, 140, 141, 142, 143, 144, 145, 146, 147, 148, 149, 150, 151] (by decide +kernel) (by decide +kernel)
set_option maxRecDepth 20000 in
theorem gX7_run_X7_fault : GoodIn wsX7_run (wsV RX7 183 RX7 yX7_fault wsX7_fault) := goodIn_app (goodIn_of _ (by decide +kernel)) ggX7_run_X7_fault
set_option maxRecDepth 20000 in
theorem ggX7_run_X7_does : GoodIn wsX7_run wsX7_does := goodIn_r _ [53, 26, 54, 55, 56, 8, 57, 4, 58, 59, 39, 40, 41, 60, 61, 62, 63, 64, 65, 66, 67, 68, 69, 70, 71, 72, 73, 74, 75, 76, 77, 78, 79, 80, 81, 82, 83, 84, 85, 86, 87, 88, 89, 90, 91, 1, 92, 93, 94, 95, 96, 97, 98, 99, 100, 101, 102, 103, 104, 105, 106, 107, 108, 109, 110, 111, 112, 113, 114, 115, 116, 117, 118, 119, 120, 121, 122, 123, 124, 125, 126, 127, 128, 129, 130, 131, 132, 133, 134, 135, 136, 137, 138, 139, 140, 141, 142, 143, 144, 145, 146, 147, 148, 149, 150, 151] (by decide +kernel) (by decide +kernel)
set_option maxRecDepth 20000 in
theorem gX7_run_X7_does : GoodIn wsX7_run (wsV RX7 185 RX7 yX7_does wsX7_does) := goodIn_app (goodIn_of _ (by decide +kernel)) ggX7_run_X7_does
set_option maxRecDepth 20000 in
theorem ggX7_save_X7_in : GoodIn wsX7_save wsX7_in := goodIn_r _ [8] (by decide +kernel) (by decide +kernel)
set_option maxRecDepth 20000 in
theorem gX7_save_X7_in : GoodIn wsX7_save (va_wsS RX7 46 yX7_in wsX7_in) := goodIn_app (goodIn_of _ (by decide +kernel)) ggX7_save_X7_in
set_option maxRecDepth 20000 in
theorem ggX7_save_X7_many : GoodIn wsX7_save wsX7_many := goodIn_r _ [12, 3, 13, 14, 15, 16, 17, 18, 19, 20, 21, 22, 23, 24, 25, 26, 27, 28, 29, 30] (by decide +kernel) (by decide +kernel)
set_option maxRecDepth 20000 in
theorem gX7_save_X7_many : GoodIn wsX7_save (wsV RX7 83 RX7 yX7_many wsX7_many) := goodIn_app (goodIn_of _ (by decide +kernel)) ggX7_save_X7_many
set_option maxRecDepth 20000 in
theorem ggX7_restore_X7_in : GoodIn wsX7_restore wsX7_in := goodIn_r _ [9] (by decide +kernel) (by decide +kernel)
set_option maxRecDepth 20000 in
theorem gX7_restore_X7_in : GoodIn wsX7_restore (va_wsS RX7 46 yX7_in wsX7_in) := goodIn_app (goodIn_of _ (by decide +kernel)) ggX7_restore_X7_in
set_option maxRecDepth 20000 in
theorem ggX7_restore_X7_many : GoodIn wsX7_restore wsX7_many := goodIn_r _ [13, 4, 14, 15, 16, 17, 18, 19, 20, 21, 22, 23, 24, 25, 26, 27, 28, 29, 30, 31] (by decide +kernel) (by decide +kernel)
set_option maxRecDepth 20000 in
theorem gX7_restore_X7_many : GoodIn wsX7_restore (wsV RX7 83 RX7 yX7_many wsX7_many) := goodIn_app (goodIn_of _ (by decide +kernel)) ggX7_restore_X7_many
set_option maxRecDepth 20000 in
theorem ggX7_count_X7_many : GoodIn wsX7_count wsX7_many := goodIn_r _ [8, 1, 9, 10, 11, 12, 13, 14, 15, 16, 17, 18, 19, 20, 21, 22, 23, 24, 25, 26] (by decide +kernel) (by decide +kernel)
set_option maxRecDepth 20000 in
theorem gX7_count_X7_many : GoodIn wsX7_count (wsV RX7 83 RX7 yX7_many wsX7_many) := goodIn_app (goodIn_of _ (by decide +kernel)) ggX7_count_X7_many
set_option maxRecDepth 20000 in
theorem ggX7_digest_X7_count : GoodIn wsX7_digest wsX7_count := goodIn_r _ [10, 3, 4, 11, 12, 13, 14, 9, 15, 57, 58, 59, 60, 61, 62, 63, 64, 65, 66, 67, 68, 69, 70, 71, 72, 73, 74] (by decide +kernel) (by decide +kernel)
set_option maxRecDepth 20000 in
theorem gX7_digest_X7_count : GoodIn wsX7_digest (wsV RX7 196 RX7 yX7_count wsX7_count) := goodIn_app (goodIn_of _ (by decide +kernel)) ggX7_digest_X7_count
set_option maxRecDepth 20000 in
theorem ggX7_digest_X7_mixes : GoodIn wsX7_digest wsX7_mixes := goodIn_r _ [19, 20, 2, 57, 58, 59, 60, 61, 62, 63, 64, 65, 66, 67, 68, 69, 70, 71, 72, 73, 74] (by decide +kernel) (by decide +kernel)
set_option maxRecDepth 20000 in
theorem gX7_digest_X7_mixes : GoodIn wsX7_digest (wsV RX7 199 RX7 yX7_mixes wsX7_mixes) := goodIn_app (goodIn_of _ (by decide +kernel)) ggX7_digest_X7_mixes
set_option maxRecDepth 20000 in
theorem ggX7_digest_X7_objectFrom : GoodIn wsX7_digest wsX7_objectFrom := goodIn_r _ [24, 3, 57, 58, 59, 60, 61, 62, 63, 64, 65, 66, 67, 68, 69, 70, 71, 72, 73, 74] (by decide +kernel) (by decide +kernel)
set_option maxRecDepth 20000 in
theorem gX7_digest_X7_objectFrom : GoodIn wsX7_digest (wsV RX7 73 RX7 yX7_objectFrom wsX7_objectFrom) := goodIn_app (goodIn_of _ (by decide +kernel)) ggX7_digest_X7_objectFrom
set_option maxRecDepth 20000 in
theorem ggX7_digest_X7_object : GoodIn wsX7_digest wsX7_object := goodIn_r _ [28, 11, 3, 29, 30, 31, 32, 9, 33, 34, 35, 36, 37, 38, 39, 40, 41, 42, 43, 44, 45, 46, 47, 48, 49, 50, 51, 52, 57, 58, 59, 60, 61, 62, 63, 64, 65, 66, 67, 68, 69, 70, 71, 72, 73, 74] (by decide +kernel) (by decide +kernel)
set_option maxRecDepth 20000 in
theorem gX7_digest_X7_object : GoodIn wsX7_digest (wsV RX7 202 RX7 yX7_object wsX7_object) := goodIn_app (goodIn_of _ (by decide +kernel)) ggX7_digest_X7_object
set_option maxRecDepth 20000 in
theorem ggX7_digest_X7_free : GoodIn wsX7_digest wsX7_free := goodIn_r _ [56, 11, 3, 34, 35, 9, 36, 57, 58, 59, 60, 61, 62, 63, 64, 65, 66, 67, 68, 69, 70, 71, 72, 73, 74] (by decide +kernel) (by decide +kernel)
set_option maxRecDepth 20000 in
theorem gX7_digest_X7_free : GoodIn wsX7_digest (wsV RX7 205 RX7 yX7_free wsX7_free) := goodIn_app (goodIn_of _ (by decide +kernel)) ggX7_digest_X7_free
theorem dX7_init_0 : decode cX7_init 0 = .ok (.aload_n 0, 1) := by decide +kernel
theorem dX7_init_1 : decode cX7_init 1 = .ok (.invokespecial 1, 3) := by decide +kernel
theorem dX7_init_4 : decode cX7_init 4 = .ok (.aload_n 0, 1) := by decide +kernel
theorem dX7_init_5 : decode cX7_init 5 = .ok (.sipush 1222, 3) := by decide +kernel
theorem dX7_init_8 : decode cX7_init 8 = .ok (.newarray .int, 2) := by decide +kernel
theorem dX7_init_10 : decode cX7_init 10 = .ok (.putfield 7, 3) := by decide +kernel
theorem dX7_init_13 : decode cX7_init 13 = .ok (.aload_n 0, 1) := by decide +kernel
theorem dX7_init_14 : decode cX7_init 14 = .ok (.sipush 1222, 3) := by decide +kernel
theorem dX7_init_17 : decode cX7_init 17 = .ok (.newarray .int, 2) := by decide +kernel
theorem dX7_init_19 : decode cX7_init 19 = .ok (.putfield 13, 3) := by decide +kernel
theorem dX7_init_22 : decode cX7_init 22 = .ok (.aload_n 0, 1) := by decide +kernel
theorem dX7_init_23 : decode cX7_init 23 = .ok (.sipush 2444, 3) := by decide +kernel
theorem dX7_init_26 : decode cX7_init 26 = .ok (.newarray .int, 2) := by decide +kernel
theorem dX7_init_28 : decode cX7_init 28 = .ok (.putfield 16, 3) := by decide +kernel
theorem dX7_init_31 : decode cX7_init 31 = .ok (.aload_n 0, 1) := by decide +kernel
theorem dX7_init_32 : decode cX7_init 32 = .ok (.iconst 2, 1) := by decide +kernel
theorem dX7_init_33 : decode cX7_init 33 = .ok (.newarray .boolean, 2) := by decide +kernel
theorem dX7_init_35 : decode cX7_init 35 = .ok (.putfield 19, 3) := by decide +kernel
theorem dX7_init_38 : decode cX7_init 38 = .ok (.aload_n 0, 1) := by decide +kernel
theorem dX7_init_39 : decode cX7_init 39 = .ok (.bipush 80, 2) := by decide +kernel
theorem dX7_init_41 : decode cX7_init 41 = .ok (.newarray .int, 2) := by decide +kernel
theorem dX7_init_43 : decode cX7_init 43 = .ok (.putfield 23, 3) := by decide +kernel
theorem dX7_init_46 : decode cX7_init 46 = .ok (.aload_n 0, 1) := by decide +kernel
theorem dX7_init_47 : decode cX7_init 47 = .ok (.iconst (-1), 1) := by decide +kernel
theorem dX7_init_48 : decode cX7_init 48 = .ok (.putfield 26, 3) := by decide +kernel
theorem dX7_init_51 : decode cX7_init 51 = .ok (.aload_n 0, 1) := by decide +kernel
theorem dX7_init_52 : decode cX7_init 52 = .ok (.sipush 200, 3) := by decide +kernel
theorem dX7_init_55 : decode cX7_init 55 = .ok (.newarray .int, 2) := by decide +kernel
theorem dX7_init_57 : decode cX7_init 57 = .ok (.putfield 30, 3) := by decide +kernel
theorem dX7_init_60 : decode cX7_init 60 = .ok (.aload_n 0, 1) := by decide +kernel
theorem dX7_init_61 : decode cX7_init 61 = .ok (.sipush 200, 3) := by decide +kernel
theorem dX7_init_64 : decode cX7_init 64 = .ok (.newarray .boolean, 2) := by decide +kernel
theorem dX7_init_66 : decode cX7_init 66 = .ok (.putfield 33, 3) := by decide +kernel
theorem dX7_init_69 : decode cX7_init 69 = .ok (.aload_n 0, 1) := by decide +kernel
theorem dX7_init_70 : decode cX7_init 70 = .ok (.bipush 20, 2) := by decide +kernel
theorem dX7_init_72 : decode cX7_init 72 = .ok (.newarray .int, 2) := by decide +kernel
theorem dX7_init_74 : decode cX7_init 74 = .ok (.putfield 36, 3) := by decide +kernel
theorem dX7_init_77 : decode cX7_init 77 = .ok (.aload_n 0, 1) := by decide +kernel
theorem dX7_init_78 : decode cX7_init 78 = .ok (.sipush 160, 3) := by decide +kernel
theorem dX7_init_81 : decode cX7_init 81 = .ok (.newarray .int, 2) := by decide +kernel
theorem dX7_init_83 : decode cX7_init 83 = .ok (.putfield 39, 3) := by decide +kernel
theorem dX7_init_86 : decode cX7_init 86 = .ok (.aload_n 0, 1) := by decide +kernel
theorem dX7_init_87 : decode cX7_init 87 = .ok (.bipush 100, 2) := by decide +kernel
theorem dX7_init_89 : decode cX7_init 89 = .ok (.bipush 8, 2) := by decide +kernel
theorem dX7_init_91 : decode cX7_init 91 = .ok (.invokevirtual 42, 3) := by decide +kernel
theorem dX7_init_94 : decode cX7_init 94 = .ok (.return_, 1) := by decide +kernel
theorem dX7_in_0 : decode cX7_in 0 = .ok (.iload_n 0, 1) := by decide +kernel
theorem dX7_in_1 : decode cX7_in 1 = .ok (.iload_n 1, 1) := by decide +kernel
theorem dX7_in_2 : decode cX7_in 2 = .ok (.if_icmp .lt 12, 3) := by decide +kernel
theorem dX7_in_5 : decode cX7_in 5 = .ok (.iload_n 0, 1) := by decide +kernel
theorem dX7_in_6 : decode cX7_in 6 = .ok (.iload_n 2, 1) := by decide +kernel
theorem dX7_in_7 : decode cX7_in 7 = .ok (.if_icmp .gt 7, 3) := by decide +kernel
theorem dX7_in_10 : decode cX7_in 10 = .ok (.iconst 1, 1) := by decide +kernel
theorem dX7_in_11 : decode cX7_in 11 = .ok (.goto 4, 3) := by decide +kernel
theorem dX7_in_14 : decode cX7_in 14 = .ok (.iconst 0, 1) := by decide +kernel
theorem dX7_in_15 : decode cX7_in 15 = .ok (.ireturn, 1) := by decide +kernel
theorem dX7_begins_0 : decode cX7_begins 0 = .ok (.iconst 0, 1) := by decide +kernel
theorem dX7_begins_1 : decode cX7_begins 1 = .ok (.istore_n 3, 1) := by decide +kernel
theorem dX7_begins_2 : decode cX7_begins 2 = .ok (.iload_n 3, 1) := by decide +kernel
theorem dX7_begins_3 : decode cX7_begins 3 = .ok (.sipush 1222, 3) := by decide +kernel
theorem dX7_begins_6 : decode cX7_begins 6 = .ok (.if_icmp .ge 34, 3) := by decide +kernel
theorem dX7_begins_9 : decode cX7_begins 9 = .ok (.aload_n 0, 1) := by decide +kernel
theorem dX7_begins_10 : decode cX7_begins 10 = .ok (.getfield 7, 3) := by decide +kernel
theorem dX7_begins_13 : decode cX7_begins 13 = .ok (.iload_n 3, 1) := by decide +kernel
theorem dX7_begins_14 : decode cX7_begins 14 = .ok (.iload_n 3, 1) := by decide +kernel
theorem dX7_begins_15 : decode cX7_begins 15 = .ok (.sipush 1200, 3) := by decide +kernel
theorem dX7_begins_18 : decode cX7_begins 18 = .ok (.if_icmp .lt 14, 3) := by decide +kernel
theorem dX7_begins_21 : decode cX7_begins 21 = .ok (.iload_n 3, 1) := by decide +kernel
theorem dX7_begins_22 : decode cX7_begins 22 = .ok (.sipush 1210, 3) := by decide +kernel
theorem dX7_begins_25 : decode cX7_begins 25 = .ok (.if_icmp .ge 7, 3) := by decide +kernel
theorem dX7_begins_28 : decode cX7_begins 28 = .ok (.iconst (-1), 1) := by decide +kernel
theorem dX7_begins_29 : decode cX7_begins 29 = .ok (.goto 4, 3) := by decide +kernel
theorem dX7_begins_32 : decode cX7_begins 32 = .ok (.iconst 0, 1) := by decide +kernel
theorem dX7_begins_33 : decode cX7_begins 33 = .ok (.iastore, 1) := by decide +kernel
theorem dX7_begins_34 : decode cX7_begins 34 = .ok (.iinc 3 1, 3) := by decide +kernel
theorem dX7_begins_37 : decode cX7_begins 37 = .ok (.goto (-35), 3) := by decide +kernel
theorem dX7_begins_40 : decode cX7_begins 40 = .ok (.aload_n 0, 1) := by decide +kernel
theorem dX7_begins_41 : decode cX7_begins 41 = .ok (.getfield 7, 3) := by decide +kernel
theorem dX7_begins_44 : decode cX7_begins 44 = .ok (.sipush 1216, 3) := by decide +kernel
theorem dX7_begins_47 : decode cX7_begins 47 = .ok (.iload_n 1, 1) := by decide +kernel
theorem dX7_begins_48 : decode cX7_begins 48 = .ok (.iastore, 1) := by decide +kernel
theorem dX7_begins_49 : decode cX7_begins 49 = .ok (.aload_n 0, 1) := by decide +kernel
theorem dX7_begins_50 : decode cX7_begins 50 = .ok (.getfield 7, 3) := by decide +kernel
theorem dX7_begins_53 : decode cX7_begins 53 = .ok (.sipush 1217, 3) := by decide +kernel
theorem dX7_begins_56 : decode cX7_begins 56 = .ok (.iload_n 2, 1) := by decide +kernel
theorem dX7_begins_57 : decode cX7_begins 57 = .ok (.iastore, 1) := by decide +kernel
theorem dX7_begins_58 : decode cX7_begins 58 = .ok (.return_, 1) := by decide +kernel
theorem dX7_reset_0 : decode cX7_reset 0 = .ok (.iload_n 1, 1) := by decide +kernel
theorem dX7_reset_1 : decode cX7_reset 1 = .ok (.bipush 8, 2) := by decide +kernel
theorem dX7_reset_3 : decode cX7_reset 3 = .ok (.sipush 200, 3) := by decide +kernel
theorem dX7_reset_6 : decode cX7_reset 6 = .ok (.invokestatic 46, 3) := by decide +kernel
theorem dX7_reset_9 : decode cX7_reset 9 = .ok (.ifCond .eq 13, 3) := by decide +kernel
theorem dX7_reset_12 : decode cX7_reset 12 = .ok (.iload_n 2, 1) := by decide +kernel
theorem dX7_reset_13 : decode cX7_reset 13 = .ok (.iconst 1, 1) := by decide +kernel
theorem dX7_reset_14 : decode cX7_reset 14 = .ok (.bipush 20, 2) := by decide +kernel
theorem dX7_reset_16 : decode cX7_reset 16 = .ok (.invokestatic 46, 3) := by decide +kernel
theorem dX7_reset_19 : decode cX7_reset 19 = .ok (.ifCond .ne 6, 3) := by decide +kernel
theorem dX7_reset_22 : decode cX7_reset 22 = .ok (.ldc 50, 2) := by decide +kernel
theorem dX7_reset_24 : decode cX7_reset 24 = .ok (.ireturn, 1) := by decide +kernel
theorem dX7_reset_25 : decode cX7_reset 25 = .ok (.aload_n 0, 1) := by decide +kernel
theorem dX7_reset_26 : decode cX7_reset 26 = .ok (.iload_n 1, 1) := by decide +kernel
theorem dX7_reset_27 : decode cX7_reset 27 = .ok (.iload_n 2, 1) := by decide +kernel
theorem dX7_reset_28 : decode cX7_reset 28 = .ok (.invokevirtual 42, 3) := by decide +kernel
theorem dX7_reset_31 : decode cX7_reset 31 = .ok (.iload_n 1, 1) := by decide +kernel
theorem dX7_reset_32 : decode cX7_reset 32 = .ok (.ireturn, 1) := by decide +kernel
theorem dX7_objectOf_0 : decode cX7_objectOf 0 = .ok (.iload_n 1, 1) := by decide +kernel
theorem dX7_objectOf_1 : decode cX7_objectOf 1 = .ok (.iconst 0, 1) := by decide +kernel
theorem dX7_objectOf_2 : decode cX7_objectOf 2 = .ok (.aload_n 0, 1) := by decide +kernel
theorem dX7_objectOf_3 : decode cX7_objectOf 3 = .ok (.getfield 7, 3) := by decide +kernel
theorem dX7_objectOf_6 : decode cX7_objectOf 6 = .ok (.sipush 1216, 3) := by decide +kernel
theorem dX7_objectOf_9 : decode cX7_objectOf 9 = .ok (.iaload, 1) := by decide +kernel
theorem dX7_objectOf_10 : decode cX7_objectOf 10 = .ok (.iconst 1, 1) := by decide +kernel
theorem dX7_objectOf_11 : decode cX7_objectOf 11 = .ok (.isub, 1) := by decide +kernel
theorem dX7_objectOf_12 : decode cX7_objectOf 12 = .ok (.invokestatic 46, 3) := by decide +kernel
theorem dX7_objectOf_15 : decode cX7_objectOf 15 = .ok (.ifCond .ne 5, 3) := by decide +kernel
theorem dX7_objectOf_18 : decode cX7_objectOf 18 = .ok (.iconst (-1), 1) := by decide +kernel
theorem dX7_objectOf_19 : decode cX7_objectOf 19 = .ok (.ireturn, 1) := by decide +kernel
theorem dX7_objectOf_20 : decode cX7_objectOf 20 = .ok (.iload_n 1, 1) := by decide +kernel
theorem dX7_objectOf_21 : decode cX7_objectOf 21 = .ok (.istore_n 2, 1) := by decide +kernel
theorem dX7_objectOf_22 : decode cX7_objectOf 22 = .ok (.iload_n 2, 1) := by decide +kernel
theorem dX7_objectOf_23 : decode cX7_objectOf 23 = .ok (.ifCond .lt 20, 3) := by decide +kernel
theorem dX7_objectOf_26 : decode cX7_objectOf 26 = .ok (.aload_n 0, 1) := by decide +kernel
theorem dX7_objectOf_27 : decode cX7_objectOf 27 = .ok (.getfield 7, 3) := by decide +kernel
theorem dX7_objectOf_30 : decode cX7_objectOf 30 = .ok (.iconst 0, 1) := by decide +kernel
theorem dX7_objectOf_31 : decode cX7_objectOf 31 = .ok (.iload_n 2, 1) := by decide +kernel
theorem dX7_objectOf_32 : decode cX7_objectOf 32 = .ok (.iadd, 1) := by decide +kernel
theorem dX7_objectOf_33 : decode cX7_objectOf 33 = .ok (.iaload, 1) := by decide +kernel
theorem dX7_objectOf_34 : decode cX7_objectOf 34 = .ok (.ifCond .ne 9, 3) := by decide +kernel
theorem dX7_objectOf_37 : decode cX7_objectOf 37 = .ok (.iinc 2 (-1), 3) := by decide +kernel
theorem dX7_objectOf_40 : decode cX7_objectOf 40 = .ok (.goto (-18), 3) := by decide +kernel
theorem dX7_objectOf_43 : decode cX7_objectOf 43 = .ok (.iload_n 2, 1) := by decide +kernel
theorem dX7_objectOf_44 : decode cX7_objectOf 44 = .ok (.ifCond .lt 21, 3) := by decide +kernel
theorem dX7_objectOf_47 : decode cX7_objectOf 47 = .ok (.iload_n 2, 1) := by decide +kernel
theorem dX7_objectOf_48 : decode cX7_objectOf 48 = .ok (.aload_n 0, 1) := by decide +kernel
theorem dX7_objectOf_49 : decode cX7_objectOf 49 = .ok (.getfield 7, 3) := by decide +kernel
theorem dX7_objectOf_52 : decode cX7_objectOf 52 = .ok (.iconst 0, 1) := by decide +kernel
theorem dX7_objectOf_53 : decode cX7_objectOf 53 = .ok (.iload_n 2, 1) := by decide +kernel
theorem dX7_objectOf_54 : decode cX7_objectOf 54 = .ok (.iadd, 1) := by decide +kernel
theorem dX7_objectOf_55 : decode cX7_objectOf 55 = .ok (.iaload, 1) := by decide +kernel
theorem dX7_objectOf_56 : decode cX7_objectOf 56 = .ok (.iadd, 1) := by decide +kernel
theorem dX7_objectOf_57 : decode cX7_objectOf 57 = .ok (.iload_n 1, 1) := by decide +kernel
theorem dX7_objectOf_58 : decode cX7_objectOf 58 = .ok (.if_icmp .le 7, 3) := by decide +kernel
theorem dX7_objectOf_61 : decode cX7_objectOf 61 = .ok (.iload_n 2, 1) := by decide +kernel
theorem dX7_objectOf_62 : decode cX7_objectOf 62 = .ok (.goto 4, 3) := by decide +kernel
theorem dX7_objectOf_65 : decode cX7_objectOf 65 = .ok (.iconst (-1), 1) := by decide +kernel
theorem dX7_objectOf_66 : decode cX7_objectOf 66 = .ok (.ireturn, 1) := by decide +kernel
theorem dX7_isReference_0 : decode cX7_isReference 0 = .ok (.iload_n 1, 1) := by decide +kernel
theorem dX7_isReference_1 : decode cX7_isReference 1 = .ok (.iconst (-1), 1) := by decide +kernel
theorem dX7_isReference_2 : decode cX7_isReference 2 = .ok (.if_icmp .eq 12, 3) := by decide +kernel
theorem dX7_isReference_5 : decode cX7_isReference 5 = .ok (.aload_n 0, 1) := by decide +kernel
theorem dX7_isReference_6 : decode cX7_isReference 6 = .ok (.iload_n 1, 1) := by decide +kernel
theorem dX7_isReference_7 : decode cX7_isReference 7 = .ok (.invokevirtual 51, 3) := by decide +kernel
theorem dX7_isReference_10 : decode cX7_isReference 10 = .ok (.iconst (-1), 1) := by decide +kernel
theorem dX7_isReference_11 : decode cX7_isReference 11 = .ok (.if_icmp .eq 7, 3) := by decide +kernel
theorem dX7_isReference_14 : decode cX7_isReference 14 = .ok (.iconst 1, 1) := by decide +kernel
theorem dX7_isReference_15 : decode cX7_isReference 15 = .ok (.goto 4, 3) := by decide +kernel
theorem dX7_isReference_18 : decode cX7_isReference 18 = .ok (.iconst 0, 1) := by decide +kernel
theorem dX7_isReference_19 : decode cX7_isReference 19 = .ok (.ireturn, 1) := by decide +kernel
theorem dX7_dataOf_0 : decode cX7_dataOf 0 = .ok (.aload_n 0, 1) := by decide +kernel
theorem dX7_dataOf_1 : decode cX7_dataOf 1 = .ok (.getfield 7, 3) := by decide +kernel
theorem dX7_dataOf_4 : decode cX7_dataOf 4 = .ok (.iconst 0, 1) := by decide +kernel
theorem dX7_dataOf_5 : decode cX7_dataOf 5 = .ok (.iload_n 1, 1) := by decide +kernel
theorem dX7_dataOf_6 : decode cX7_dataOf 6 = .ok (.iadd, 1) := by decide +kernel
theorem dX7_dataOf_7 : decode cX7_dataOf 7 = .ok (.iaload, 1) := by decide +kernel
theorem dX7_dataOf_8 : decode cX7_dataOf 8 = .ok (.iconst 1, 1) := by decide +kernel
theorem dX7_dataOf_9 : decode cX7_dataOf 9 = .ok (.isub, 1) := by decide +kernel
theorem dX7_dataOf_10 : decode cX7_dataOf 10 = .ok (.aload_n 0, 1) := by decide +kernel
theorem dX7_dataOf_11 : decode cX7_dataOf 11 = .ok (.getfield 7, 3) := by decide +kernel
theorem dX7_dataOf_14 : decode cX7_dataOf 14 = .ok (.sipush 200, 3) := by decide +kernel
theorem dX7_dataOf_17 : decode cX7_dataOf 17 = .ok (.iload_n 1, 1) := by decide +kernel
theorem dX7_dataOf_18 : decode cX7_dataOf 18 = .ok (.iadd, 1) := by decide +kernel
theorem dX7_dataOf_19 : decode cX7_dataOf 19 = .ok (.iaload, 1) := by decide +kernel
theorem dX7_dataOf_20 : decode cX7_dataOf 20 = .ok (.isub, 1) := by decide +kernel
theorem dX7_dataOf_21 : decode cX7_dataOf 21 = .ok (.ireturn, 1) := by decide +kernel
theorem dX7_alloc_0 : decode cX7_alloc 0 = .ok (.iload_n 1, 1) := by decide +kernel
theorem dX7_alloc_1 : decode cX7_alloc 1 = .ok (.iconst 0, 1) := by decide +kernel
theorem dX7_alloc_2 : decode cX7_alloc 2 = .ok (.bipush 6, 2) := by decide +kernel
theorem dX7_alloc_4 : decode cX7_alloc 4 = .ok (.invokestatic 46, 3) := by decide +kernel
theorem dX7_alloc_7 : decode cX7_alloc 7 = .ok (.ifCond .eq 13, 3) := by decide +kernel
theorem dX7_alloc_10 : decode cX7_alloc 10 = .ok (.iload_n 2, 1) := by decide +kernel
theorem dX7_alloc_11 : decode cX7_alloc 11 = .ok (.iconst 0, 1) := by decide +kernel
theorem dX7_alloc_12 : decode cX7_alloc 12 = .ok (.bipush 6, 2) := by decide +kernel
theorem dX7_alloc_14 : decode cX7_alloc 14 = .ok (.invokestatic 46, 3) := by decide +kernel
theorem dX7_alloc_17 : decode cX7_alloc 17 = .ok (.ifCond .ne 6, 3) := by decide +kernel
theorem dX7_alloc_20 : decode cX7_alloc 20 = .ok (.ldc 50, 2) := by decide +kernel
theorem dX7_alloc_22 : decode cX7_alloc 22 = .ok (.ireturn, 1) := by decide +kernel
theorem dX7_alloc_23 : decode cX7_alloc 23 = .ok (.iconst 1, 1) := by decide +kernel
theorem dX7_alloc_24 : decode cX7_alloc 24 = .ok (.iload_n 1, 1) := by decide +kernel
theorem dX7_alloc_25 : decode cX7_alloc 25 = .ok (.iadd, 1) := by decide +kernel
theorem dX7_alloc_26 : decode cX7_alloc 26 = .ok (.iload_n 2, 1) := by decide +kernel
theorem dX7_alloc_27 : decode cX7_alloc 27 = .ok (.iadd, 1) := by decide +kernel
theorem dX7_alloc_28 : decode cX7_alloc 28 = .ok (.istore_n 3, 1) := by decide +kernel
theorem dX7_alloc_29 : decode cX7_alloc 29 = .ok (.iconst 0, 1) := by decide +kernel
theorem dX7_alloc_30 : decode cX7_alloc 30 = .ok (.istore 4, 2) := by decide +kernel
theorem dX7_alloc_32 : decode cX7_alloc 32 = .ok (.iload 4, 2) := by decide +kernel
theorem dX7_alloc_34 : decode cX7_alloc 34 = .ok (.iload_n 3, 1) := by decide +kernel
theorem dX7_alloc_35 : decode cX7_alloc 35 = .ok (.iadd, 1) := by decide +kernel
theorem dX7_alloc_36 : decode cX7_alloc 36 = .ok (.aload_n 0, 1) := by decide +kernel
theorem dX7_alloc_37 : decode cX7_alloc 37 = .ok (.getfield 7, 3) := by decide +kernel
theorem dX7_alloc_40 : decode cX7_alloc 40 = .ok (.sipush 1216, 3) := by decide +kernel
theorem dX7_alloc_43 : decode cX7_alloc 43 = .ok (.iaload, 1) := by decide +kernel
theorem dX7_alloc_44 : decode cX7_alloc 44 = .ok (.if_icmp .gt 73, 3) := by decide +kernel
theorem dX7_alloc_47 : decode cX7_alloc 47 = .ok (.iconst 0, 1) := by decide +kernel
theorem dX7_alloc_48 : decode cX7_alloc 48 = .ok (.istore 5, 2) := by decide +kernel
theorem dX7_alloc_50 : decode cX7_alloc 50 = .ok (.iload 5, 2) := by decide +kernel
theorem dX7_alloc_52 : decode cX7_alloc 52 = .ok (.iload_n 3, 1) := by decide +kernel
theorem dX7_alloc_53 : decode cX7_alloc 53 = .ok (.if_icmp .ge 24, 3) := by decide +kernel
theorem dX7_alloc_56 : decode cX7_alloc 56 = .ok (.aload_n 0, 1) := by decide +kernel
theorem dX7_alloc_57 : decode cX7_alloc 57 = .ok (.getfield 7, 3) := by decide +kernel
theorem dX7_alloc_60 : decode cX7_alloc 60 = .ok (.iconst 0, 1) := by decide +kernel
theorem dX7_alloc_61 : decode cX7_alloc 61 = .ok (.iload 4, 2) := by decide +kernel
theorem dX7_alloc_63 : decode cX7_alloc 63 = .ok (.iadd, 1) := by decide +kernel
theorem dX7_alloc_64 : decode cX7_alloc 64 = .ok (.iload 5, 2) := by decide +kernel
theorem dX7_alloc_66 : decode cX7_alloc 66 = .ok (.iadd, 1) := by decide +kernel
theorem dX7_alloc_67 : decode cX7_alloc 67 = .ok (.iaload, 1) := by decide +kernel
theorem dX7_alloc_68 : decode cX7_alloc 68 = .ok (.ifCond .ne 9, 3) := by decide +kernel
theorem dX7_alloc_71 : decode cX7_alloc 71 = .ok (.iinc 5 1, 3) := by decide +kernel
theorem dX7_alloc_74 : decode cX7_alloc 74 = .ok (.goto (-24), 3) := by decide +kernel
theorem dX7_alloc_77 : decode cX7_alloc 77 = .ok (.iload 5, 2) := by decide +kernel
theorem dX7_alloc_79 : decode cX7_alloc 79 = .ok (.iload_n 3, 1) := by decide +kernel
theorem dX7_alloc_80 : decode cX7_alloc 80 = .ok (.if_icmp .ne 14, 3) := by decide +kernel
theorem dX7_alloc_83 : decode cX7_alloc 83 = .ok (.aload_n 0, 1) := by decide +kernel
theorem dX7_alloc_84 : decode cX7_alloc 84 = .ok (.iload 4, 2) := by decide +kernel
theorem dX7_alloc_86 : decode cX7_alloc 86 = .ok (.iload_n 1, 1) := by decide +kernel
theorem dX7_alloc_87 : decode cX7_alloc 87 = .ok (.iload_n 2, 1) := by decide +kernel
theorem dX7_alloc_88 : decode cX7_alloc 88 = .ok (.invokevirtual 55, 3) := by decide +kernel
theorem dX7_alloc_91 : decode cX7_alloc 91 = .ok (.iload 4, 2) := by decide +kernel
theorem dX7_alloc_93 : decode cX7_alloc 93 = .ok (.ireturn, 1) := by decide +kernel
theorem dX7_alloc_94 : decode cX7_alloc 94 = .ok (.iload 4, 2) := by decide +kernel
theorem dX7_alloc_96 : decode cX7_alloc 96 = .ok (.iload 5, 2) := by decide +kernel
theorem dX7_alloc_98 : decode cX7_alloc 98 = .ok (.aload_n 0, 1) := by decide +kernel
theorem dX7_alloc_99 : decode cX7_alloc 99 = .ok (.getfield 7, 3) := by decide +kernel
theorem dX7_alloc_102 : decode cX7_alloc 102 = .ok (.iconst 0, 1) := by decide +kernel
theorem dX7_alloc_103 : decode cX7_alloc 103 = .ok (.iload 4, 2) := by decide +kernel
theorem dX7_alloc_105 : decode cX7_alloc 105 = .ok (.iadd, 1) := by decide +kernel
theorem dX7_alloc_106 : decode cX7_alloc 106 = .ok (.iload 5, 2) := by decide +kernel
theorem dX7_alloc_108 : decode cX7_alloc 108 = .ok (.iadd, 1) := by decide +kernel
theorem dX7_alloc_109 : decode cX7_alloc 109 = .ok (.iaload, 1) := by decide +kernel
theorem dX7_alloc_110 : decode cX7_alloc 110 = .ok (.iadd, 1) := by decide +kernel
theorem dX7_alloc_111 : decode cX7_alloc 111 = .ok (.iadd, 1) := by decide +kernel
theorem dX7_alloc_112 : decode cX7_alloc 112 = .ok (.istore 4, 2) := by decide +kernel
theorem dX7_alloc_114 : decode cX7_alloc 114 = .ok (.goto (-82), 3) := by decide +kernel
theorem dX7_alloc_117 : decode cX7_alloc 117 = .ok (.ldc 59, 2) := by decide +kernel
theorem dX7_alloc_119 : decode cX7_alloc 119 = .ok (.ireturn, 1) := by decide +kernel
theorem dX7_lays_0 : decode cX7_lays 0 = .ok (.aload_n 0, 1) := by decide +kernel
theorem dX7_lays_1 : decode cX7_lays 1 = .ok (.getfield 7, 3) := by decide +kernel
theorem dX7_lays_4 : decode cX7_lays 4 = .ok (.iconst 0, 1) := by decide +kernel
theorem dX7_lays_5 : decode cX7_lays 5 = .ok (.iload_n 1, 1) := by decide +kernel
theorem dX7_lays_6 : decode cX7_lays 6 = .ok (.iadd, 1) := by decide +kernel
theorem dX7_lays_7 : decode cX7_lays 7 = .ok (.iconst 1, 1) := by decide +kernel
theorem dX7_lays_8 : decode cX7_lays 8 = .ok (.iload_n 2, 1) := by decide +kernel
theorem dX7_lays_9 : decode cX7_lays 9 = .ok (.iadd, 1) := by decide +kernel
theorem dX7_lays_10 : decode cX7_lays 10 = .ok (.iload_n 3, 1) := by decide +kernel
theorem dX7_lays_11 : decode cX7_lays 11 = .ok (.iadd, 1) := by decide +kernel
theorem dX7_lays_12 : decode cX7_lays 12 = .ok (.iastore, 1) := by decide +kernel
theorem dX7_lays_13 : decode cX7_lays 13 = .ok (.aload_n 0, 1) := by decide +kernel
theorem dX7_lays_14 : decode cX7_lays 14 = .ok (.getfield 7, 3) := by decide +kernel
theorem dX7_lays_17 : decode cX7_lays 17 = .ok (.sipush 200, 3) := by decide +kernel
theorem dX7_lays_20 : decode cX7_lays 20 = .ok (.iload_n 1, 1) := by decide +kernel
theorem dX7_lays_21 : decode cX7_lays 21 = .ok (.iadd, 1) := by decide +kernel
theorem dX7_lays_22 : decode cX7_lays 22 = .ok (.iload_n 2, 1) := by decide +kernel
theorem dX7_lays_23 : decode cX7_lays 23 = .ok (.iastore, 1) := by decide +kernel
theorem dX7_lays_24 : decode cX7_lays 24 = .ok (.aload_n 0, 1) := by decide +kernel
theorem dX7_lays_25 : decode cX7_lays 25 = .ok (.getfield 7, 3) := by decide +kernel
theorem dX7_lays_28 : decode cX7_lays 28 = .ok (.sipush 400, 3) := by decide +kernel
theorem dX7_lays_31 : decode cX7_lays 31 = .ok (.iload_n 1, 1) := by decide +kernel
theorem dX7_lays_32 : decode cX7_lays 32 = .ok (.iadd, 1) := by decide +kernel
theorem dX7_lays_33 : decode cX7_lays 33 = .ok (.iconst 0, 1) := by decide +kernel
theorem dX7_lays_34 : decode cX7_lays 34 = .ok (.iastore, 1) := by decide +kernel
theorem dX7_lays_35 : decode cX7_lays 35 = .ok (.aload_n 0, 1) := by decide +kernel
theorem dX7_lays_36 : decode cX7_lays 36 = .ok (.getfield 7, 3) := by decide +kernel
theorem dX7_lays_39 : decode cX7_lays 39 = .ok (.sipush 600, 3) := by decide +kernel
theorem dX7_lays_42 : decode cX7_lays 42 = .ok (.iload_n 1, 1) := by decide +kernel
theorem dX7_lays_43 : decode cX7_lays 43 = .ok (.iadd, 1) := by decide +kernel
theorem dX7_lays_44 : decode cX7_lays 44 = .ok (.iconst 0, 1) := by decide +kernel
theorem dX7_lays_45 : decode cX7_lays 45 = .ok (.iastore, 1) := by decide +kernel
theorem dX7_lays_46 : decode cX7_lays 46 = .ok (.iconst 1, 1) := by decide +kernel
theorem dX7_lays_47 : decode cX7_lays 47 = .ok (.istore 4, 2) := by decide +kernel
theorem dX7_lays_49 : decode cX7_lays 49 = .ok (.iload 4, 2) := by decide +kernel
theorem dX7_lays_51 : decode cX7_lays 51 = .ok (.iload_n 2, 1) := by decide +kernel
theorem dX7_lays_52 : decode cX7_lays 52 = .ok (.iload_n 3, 1) := by decide +kernel
theorem dX7_lays_53 : decode cX7_lays 53 = .ok (.iadd, 1) := by decide +kernel
theorem dX7_lays_54 : decode cX7_lays 54 = .ok (.if_icmp .gt 33, 3) := by decide +kernel
theorem dX7_lays_57 : decode cX7_lays 57 = .ok (.aload_n 0, 1) := by decide +kernel
theorem dX7_lays_58 : decode cX7_lays 58 = .ok (.getfield 7, 3) := by decide +kernel
theorem dX7_lays_61 : decode cX7_lays 61 = .ok (.sipush 800, 3) := by decide +kernel
theorem dX7_lays_64 : decode cX7_lays 64 = .ok (.iload_n 1, 1) := by decide +kernel
theorem dX7_lays_65 : decode cX7_lays 65 = .ok (.iadd, 1) := by decide +kernel
theorem dX7_lays_66 : decode cX7_lays 66 = .ok (.iload 4, 2) := by decide +kernel
theorem dX7_lays_68 : decode cX7_lays 68 = .ok (.iadd, 1) := by decide +kernel
theorem dX7_lays_69 : decode cX7_lays 69 = .ok (.iload 4, 2) := by decide +kernel
theorem dX7_lays_71 : decode cX7_lays 71 = .ok (.iload_n 2, 1) := by decide +kernel
theorem dX7_lays_72 : decode cX7_lays 72 = .ok (.if_icmp .gt 7, 3) := by decide +kernel
theorem dX7_lays_75 : decode cX7_lays 75 = .ok (.iconst (-1), 1) := by decide +kernel
theorem dX7_lays_76 : decode cX7_lays 76 = .ok (.goto 4, 3) := by decide +kernel
theorem dX7_lays_79 : decode cX7_lays 79 = .ok (.iconst 0, 1) := by decide +kernel
theorem dX7_lays_80 : decode cX7_lays 80 = .ok (.iastore, 1) := by decide +kernel
theorem dX7_lays_81 : decode cX7_lays 81 = .ok (.iinc 4 1, 3) := by decide +kernel
theorem dX7_lays_84 : decode cX7_lays 84 = .ok (.goto (-35), 3) := by decide +kernel
theorem dX7_lays_87 : decode cX7_lays 87 = .ok (.aload_n 0, 1) := by decide +kernel
theorem dX7_lays_88 : decode cX7_lays 88 = .ok (.getfield 7, 3) := by decide +kernel
theorem dX7_lays_91 : decode cX7_lays 91 = .ok (.sipush 1218, 3) := by decide +kernel
theorem dX7_lays_94 : decode cX7_lays 94 = .ok (.dup2, 1) := by decide +kernel
theorem dX7_lays_95 : decode cX7_lays 95 = .ok (.iaload, 1) := by decide +kernel
theorem dX7_lays_96 : decode cX7_lays 96 = .ok (.iconst 1, 1) := by decide +kernel
theorem dX7_lays_97 : decode cX7_lays 97 = .ok (.iadd, 1) := by decide +kernel
theorem dX7_lays_98 : decode cX7_lays 98 = .ok (.iastore, 1) := by decide +kernel
theorem dX7_lays_99 : decode cX7_lays 99 = .ok (.return_, 1) := by decide +kernel
theorem dX7_referring_0 : decode cX7_referring 0 = .ok (.iconst 0, 1) := by decide +kernel
theorem dX7_referring_1 : decode cX7_referring 1 = .ok (.istore_n 2, 1) := by decide +kernel
theorem dX7_referring_2 : decode cX7_referring 2 = .ok (.iconst 0, 1) := by decide +kernel
theorem dX7_referring_3 : decode cX7_referring 3 = .ok (.istore_n 3, 1) := by decide +kernel
theorem dX7_referring_4 : decode cX7_referring 4 = .ok (.iload_n 3, 1) := by decide +kernel
theorem dX7_referring_5 : decode cX7_referring 5 = .ok (.bipush 10, 2) := by decide +kernel
theorem dX7_referring_7 : decode cX7_referring 7 = .ok (.if_icmp .ge 49, 3) := by decide +kernel
theorem dX7_referring_10 : decode cX7_referring 10 = .ok (.iload_n 2, 1) := by decide +kernel
theorem dX7_referring_11 : decode cX7_referring 11 = .ok (.aload_n 0, 1) := by decide +kernel
theorem dX7_referring_12 : decode cX7_referring 12 = .ok (.getfield 7, 3) := by decide +kernel
theorem dX7_referring_15 : decode cX7_referring 15 = .ok (.sipush 1200, 3) := by decide +kernel
theorem dX7_referring_18 : decode cX7_referring 18 = .ok (.iload_n 3, 1) := by decide +kernel
theorem dX7_referring_19 : decode cX7_referring 19 = .ok (.iadd, 1) := by decide +kernel
theorem dX7_referring_20 : decode cX7_referring 20 = .ok (.iaload, 1) := by decide +kernel
theorem dX7_referring_21 : decode cX7_referring 21 = .ok (.iconst (-1), 1) := by decide +kernel
theorem dX7_referring_22 : decode cX7_referring 22 = .ok (.if_icmp .eq 25, 3) := by decide +kernel
theorem dX7_referring_25 : decode cX7_referring 25 = .ok (.aload_n 0, 1) := by decide +kernel
theorem dX7_referring_26 : decode cX7_referring 26 = .ok (.aload_n 0, 1) := by decide +kernel
theorem dX7_referring_27 : decode cX7_referring 27 = .ok (.getfield 7, 3) := by decide +kernel
theorem dX7_referring_30 : decode cX7_referring 30 = .ok (.sipush 1200, 3) := by decide +kernel
theorem dX7_referring_33 : decode cX7_referring 33 = .ok (.iload_n 3, 1) := by decide +kernel
theorem dX7_referring_34 : decode cX7_referring 34 = .ok (.iadd, 1) := by decide +kernel
theorem dX7_referring_35 : decode cX7_referring 35 = .ok (.iaload, 1) := by decide +kernel
theorem dX7_referring_36 : decode cX7_referring 36 = .ok (.invokevirtual 51, 3) := by decide +kernel
theorem dX7_referring_39 : decode cX7_referring 39 = .ok (.iload_n 1, 1) := by decide +kernel
theorem dX7_referring_40 : decode cX7_referring 40 = .ok (.if_icmp .ne 7, 3) := by decide +kernel
theorem dX7_referring_43 : decode cX7_referring 43 = .ok (.iconst 1, 1) := by decide +kernel
theorem dX7_referring_44 : decode cX7_referring 44 = .ok (.goto 4, 3) := by decide +kernel
theorem dX7_referring_47 : decode cX7_referring 47 = .ok (.iconst 0, 1) := by decide +kernel
theorem dX7_referring_48 : decode cX7_referring 48 = .ok (.iadd, 1) := by decide +kernel
theorem dX7_referring_49 : decode cX7_referring 49 = .ok (.istore_n 2, 1) := by decide +kernel
theorem dX7_referring_50 : decode cX7_referring 50 = .ok (.iinc 3 1, 3) := by decide +kernel
theorem dX7_referring_53 : decode cX7_referring 53 = .ok (.goto (-49), 3) := by decide +kernel
theorem dX7_referring_56 : decode cX7_referring 56 = .ok (.iconst 0, 1) := by decide +kernel
theorem dX7_referring_57 : decode cX7_referring 57 = .ok (.istore_n 3, 1) := by decide +kernel
theorem dX7_referring_58 : decode cX7_referring 58 = .ok (.iload_n 3, 1) := by decide +kernel
theorem dX7_referring_59 : decode cX7_referring 59 = .ok (.aload_n 0, 1) := by decide +kernel
theorem dX7_referring_60 : decode cX7_referring 60 = .ok (.getfield 7, 3) := by decide +kernel
theorem dX7_referring_63 : decode cX7_referring 63 = .ok (.sipush 1216, 3) := by decide +kernel
theorem dX7_referring_66 : decode cX7_referring 66 = .ok (.iaload, 1) := by decide +kernel
theorem dX7_referring_67 : decode cX7_referring 67 = .ok (.if_icmp .ge 90, 3) := by decide +kernel
theorem dX7_referring_70 : decode cX7_referring 70 = .ok (.iconst 1, 1) := by decide +kernel
theorem dX7_referring_71 : decode cX7_referring 71 = .ok (.istore 4, 2) := by decide +kernel
theorem dX7_referring_73 : decode cX7_referring 73 = .ok (.iload 4, 2) := by decide +kernel
theorem dX7_referring_75 : decode cX7_referring 75 = .ok (.aload_n 0, 1) := by decide +kernel
theorem dX7_referring_76 : decode cX7_referring 76 = .ok (.getfield 7, 3) := by decide +kernel
theorem dX7_referring_79 : decode cX7_referring 79 = .ok (.sipush 200, 3) := by decide +kernel
theorem dX7_referring_82 : decode cX7_referring 82 = .ok (.iload_n 3, 1) := by decide +kernel
theorem dX7_referring_83 : decode cX7_referring 83 = .ok (.iadd, 1) := by decide +kernel
theorem dX7_referring_84 : decode cX7_referring 84 = .ok (.iaload, 1) := by decide +kernel
theorem dX7_referring_85 : decode cX7_referring 85 = .ok (.if_icmp .gt 66, 3) := by decide +kernel
theorem dX7_referring_88 : decode cX7_referring 88 = .ok (.aload_n 0, 1) := by decide +kernel
theorem dX7_referring_89 : decode cX7_referring 89 = .ok (.getfield 7, 3) := by decide +kernel
theorem dX7_referring_92 : decode cX7_referring 92 = .ok (.iconst 0, 1) := by decide +kernel
theorem dX7_referring_93 : decode cX7_referring 93 = .ok (.iload_n 3, 1) := by decide +kernel
theorem dX7_referring_94 : decode cX7_referring 94 = .ok (.iadd, 1) := by decide +kernel
theorem dX7_referring_95 : decode cX7_referring 95 = .ok (.iaload, 1) := by decide +kernel
theorem dX7_referring_96 : decode cX7_referring 96 = .ok (.ifCond .le 55, 3) := by decide +kernel
theorem dX7_referring_99 : decode cX7_referring 99 = .ok (.iload_n 2, 1) := by decide +kernel
theorem dX7_referring_100 : decode cX7_referring 100 = .ok (.aload_n 0, 1) := by decide +kernel
theorem dX7_referring_101 : decode cX7_referring 101 = .ok (.getfield 7, 3) := by decide +kernel
theorem dX7_referring_104 : decode cX7_referring 104 = .ok (.sipush 800, 3) := by decide +kernel
theorem dX7_referring_107 : decode cX7_referring 107 = .ok (.iload_n 3, 1) := by decide +kernel
theorem dX7_referring_108 : decode cX7_referring 108 = .ok (.iadd, 1) := by decide +kernel
theorem dX7_referring_109 : decode cX7_referring 109 = .ok (.iload 4, 2) := by decide +kernel
theorem dX7_referring_111 : decode cX7_referring 111 = .ok (.iadd, 1) := by decide +kernel
theorem dX7_referring_112 : decode cX7_referring 112 = .ok (.iaload, 1) := by decide +kernel
theorem dX7_referring_113 : decode cX7_referring 113 = .ok (.iconst (-1), 1) := by decide +kernel
theorem dX7_referring_114 : decode cX7_referring 114 = .ok (.if_icmp .eq 28, 3) := by decide +kernel
theorem dX7_referring_117 : decode cX7_referring 117 = .ok (.aload_n 0, 1) := by decide +kernel
theorem dX7_referring_118 : decode cX7_referring 118 = .ok (.aload_n 0, 1) := by decide +kernel
theorem dX7_referring_119 : decode cX7_referring 119 = .ok (.getfield 7, 3) := by decide +kernel
theorem dX7_referring_122 : decode cX7_referring 122 = .ok (.sipush 800, 3) := by decide +kernel
theorem dX7_referring_125 : decode cX7_referring 125 = .ok (.iload_n 3, 1) := by decide +kernel
theorem dX7_referring_126 : decode cX7_referring 126 = .ok (.iadd, 1) := by decide +kernel
theorem dX7_referring_127 : decode cX7_referring 127 = .ok (.iload 4, 2) := by decide +kernel
theorem dX7_referring_129 : decode cX7_referring 129 = .ok (.iadd, 1) := by decide +kernel
theorem dX7_referring_130 : decode cX7_referring 130 = .ok (.iaload, 1) := by decide +kernel
theorem dX7_referring_131 : decode cX7_referring 131 = .ok (.invokevirtual 51, 3) := by decide +kernel
theorem dX7_referring_134 : decode cX7_referring 134 = .ok (.iload_n 1, 1) := by decide +kernel
theorem dX7_referring_135 : decode cX7_referring 135 = .ok (.if_icmp .ne 7, 3) := by decide +kernel
theorem dX7_referring_138 : decode cX7_referring 138 = .ok (.iconst 1, 1) := by decide +kernel
theorem dX7_referring_139 : decode cX7_referring 139 = .ok (.goto 4, 3) := by decide +kernel
theorem dX7_referring_142 : decode cX7_referring 142 = .ok (.iconst 0, 1) := by decide +kernel
theorem dX7_referring_143 : decode cX7_referring 143 = .ok (.iadd, 1) := by decide +kernel
theorem dX7_referring_144 : decode cX7_referring 144 = .ok (.istore_n 2, 1) := by decide +kernel
theorem dX7_referring_145 : decode cX7_referring 145 = .ok (.iinc 4 1, 3) := by decide +kernel
theorem dX7_referring_148 : decode cX7_referring 148 = .ok (.goto (-75), 3) := by decide +kernel
theorem dX7_referring_151 : decode cX7_referring 151 = .ok (.iinc 3 1, 3) := by decide +kernel
theorem dX7_referring_154 : decode cX7_referring 154 = .ok (.goto (-96), 3) := by decide +kernel
theorem dX7_referring_157 : decode cX7_referring 157 = .ok (.iload_n 2, 1) := by decide +kernel
theorem dX7_referring_158 : decode cX7_referring 158 = .ok (.ireturn, 1) := by decide +kernel
theorem dX7_starts_0 : decode cX7_starts 0 = .ok (.iload_n 1, 1) := by decide +kernel
theorem dX7_starts_1 : decode cX7_starts 1 = .ok (.iconst (-1), 1) := by decide +kernel
theorem dX7_starts_2 : decode cX7_starts 2 = .ok (.if_icmp .ne 7, 3) := by decide +kernel
theorem dX7_starts_5 : decode cX7_starts 5 = .ok (.iconst (-1), 1) := by decide +kernel
theorem dX7_starts_6 : decode cX7_starts 6 = .ok (.goto 8, 3) := by decide +kernel
theorem dX7_starts_9 : decode cX7_starts 9 = .ok (.aload_n 0, 1) := by decide +kernel
theorem dX7_starts_10 : decode cX7_starts 10 = .ok (.iload_n 1, 1) := by decide +kernel
theorem dX7_starts_11 : decode cX7_starts 11 = .ok (.invokevirtual 51, 3) := by decide +kernel
theorem dX7_starts_14 : decode cX7_starts 14 = .ok (.istore_n 3, 1) := by decide +kernel
theorem dX7_starts_15 : decode cX7_starts 15 = .ok (.iload_n 3, 1) := by decide +kernel
theorem dX7_starts_16 : decode cX7_starts 16 = .ok (.iconst (-1), 1) := by decide +kernel
theorem dX7_starts_17 : decode cX7_starts 17 = .ok (.if_icmp .eq 15, 3) := by decide +kernel
theorem dX7_starts_20 : decode cX7_starts 20 = .ok (.iload_n 3, 1) := by decide +kernel
theorem dX7_starts_21 : decode cX7_starts 21 = .ok (.iload_n 2, 1) := by decide +kernel
theorem dX7_starts_22 : decode cX7_starts 22 = .ok (.if_icmp .eq 10, 3) := by decide +kernel
theorem dX7_starts_25 : decode cX7_starts 25 = .ok (.aload_n 0, 1) := by decide +kernel
theorem dX7_starts_26 : decode cX7_starts 26 = .ok (.getfield 30, 3) := by decide +kernel
theorem dX7_starts_29 : decode cX7_starts 29 = .ok (.iload_n 3, 1) := by decide +kernel
theorem dX7_starts_30 : decode cX7_starts 30 = .ok (.iconst 0, 1) := by decide +kernel
theorem dX7_starts_31 : decode cX7_starts 31 = .ok (.iastore, 1) := by decide +kernel
theorem dX7_starts_32 : decode cX7_starts 32 = .ok (.return_, 1) := by decide +kernel
theorem dX7_reaches_0 : decode cX7_reaches 0 = .ok (.iconst 0, 1) := by decide +kernel
theorem dX7_reaches_1 : decode cX7_reaches 1 = .ok (.istore_n 2, 1) := by decide +kernel
theorem dX7_reaches_2 : decode cX7_reaches 2 = .ok (.iload_n 2, 1) := by decide +kernel
theorem dX7_reaches_3 : decode cX7_reaches 3 = .ok (.sipush 200, 3) := by decide +kernel
theorem dX7_reaches_6 : decode cX7_reaches 6 = .ok (.if_icmp .ge 16, 3) := by decide +kernel
theorem dX7_reaches_9 : decode cX7_reaches 9 = .ok (.aload_n 0, 1) := by decide +kernel
theorem dX7_reaches_10 : decode cX7_reaches 10 = .ok (.getfield 30, 3) := by decide +kernel
theorem dX7_reaches_13 : decode cX7_reaches 13 = .ok (.iload_n 2, 1) := by decide +kernel
theorem dX7_reaches_14 : decode cX7_reaches 14 = .ok (.iconst (-1), 1) := by decide +kernel
theorem dX7_reaches_15 : decode cX7_reaches 15 = .ok (.iastore, 1) := by decide +kernel
theorem dX7_reaches_16 : decode cX7_reaches 16 = .ok (.iinc 2 1, 3) := by decide +kernel
theorem dX7_reaches_19 : decode cX7_reaches 19 = .ok (.goto (-17), 3) := by decide +kernel
theorem dX7_reaches_22 : decode cX7_reaches 22 = .ok (.iconst 0, 1) := by decide +kernel
theorem dX7_reaches_23 : decode cX7_reaches 23 = .ok (.istore_n 2, 1) := by decide +kernel
theorem dX7_reaches_24 : decode cX7_reaches 24 = .ok (.iload_n 2, 1) := by decide +kernel
theorem dX7_reaches_25 : decode cX7_reaches 25 = .ok (.bipush 6, 2) := by decide +kernel
theorem dX7_reaches_27 : decode cX7_reaches 27 = .ok (.if_icmp .ge 24, 3) := by decide +kernel
theorem dX7_reaches_30 : decode cX7_reaches 30 = .ok (.aload_n 0, 1) := by decide +kernel
theorem dX7_reaches_31 : decode cX7_reaches 31 = .ok (.aload_n 0, 1) := by decide +kernel
theorem dX7_reaches_32 : decode cX7_reaches 32 = .ok (.getfield 7, 3) := by decide +kernel
theorem dX7_reaches_35 : decode cX7_reaches 35 = .ok (.sipush 1200, 3) := by decide +kernel
theorem dX7_reaches_38 : decode cX7_reaches 38 = .ok (.iload_n 2, 1) := by decide +kernel
theorem dX7_reaches_39 : decode cX7_reaches 39 = .ok (.iadd, 1) := by decide +kernel
theorem dX7_reaches_40 : decode cX7_reaches 40 = .ok (.iaload, 1) := by decide +kernel
theorem dX7_reaches_41 : decode cX7_reaches 41 = .ok (.iload_n 1, 1) := by decide +kernel
theorem dX7_reaches_42 : decode cX7_reaches 42 = .ok (.invokevirtual 60, 3) := by decide +kernel
theorem dX7_reaches_45 : decode cX7_reaches 45 = .ok (.iinc 2 1, 3) := by decide +kernel
theorem dX7_reaches_48 : decode cX7_reaches 48 = .ok (.goto (-24), 3) := by decide +kernel
theorem dX7_reaches_51 : decode cX7_reaches 51 = .ok (.iconst 0, 1) := by decide +kernel
theorem dX7_reaches_52 : decode cX7_reaches 52 = .ok (.istore_n 2, 1) := by decide +kernel
theorem dX7_reaches_53 : decode cX7_reaches 53 = .ok (.iload_n 2, 1) := by decide +kernel
theorem dX7_reaches_54 : decode cX7_reaches 54 = .ok (.aload_n 0, 1) := by decide +kernel
theorem dX7_reaches_55 : decode cX7_reaches 55 = .ok (.getfield 7, 3) := by decide +kernel
theorem dX7_reaches_58 : decode cX7_reaches 58 = .ok (.sipush 1216, 3) := by decide +kernel
theorem dX7_reaches_61 : decode cX7_reaches 61 = .ok (.iaload, 1) := by decide +kernel
theorem dX7_reaches_62 : decode cX7_reaches 62 = .ok (.if_icmp .ge 44, 3) := by decide +kernel
theorem dX7_reaches_65 : decode cX7_reaches 65 = .ok (.aload_n 0, 1) := by decide +kernel
theorem dX7_reaches_66 : decode cX7_reaches 66 = .ok (.aload_n 0, 1) := by decide +kernel
theorem dX7_reaches_67 : decode cX7_reaches 67 = .ok (.getfield 7, 3) := by decide +kernel
theorem dX7_reaches_70 : decode cX7_reaches 70 = .ok (.iconst 0, 1) := by decide +kernel
theorem dX7_reaches_71 : decode cX7_reaches 71 = .ok (.iload_n 2, 1) := by decide +kernel
theorem dX7_reaches_72 : decode cX7_reaches 72 = .ok (.iadd, 1) := by decide +kernel
theorem dX7_reaches_73 : decode cX7_reaches 73 = .ok (.iaload, 1) := by decide +kernel
theorem dX7_reaches_74 : decode cX7_reaches 74 = .ok (.ifCond .le 21, 3) := by decide +kernel
theorem dX7_reaches_77 : decode cX7_reaches 77 = .ok (.aload_n 0, 1) := by decide +kernel
theorem dX7_reaches_78 : decode cX7_reaches 78 = .ok (.getfield 7, 3) := by decide +kernel
theorem dX7_reaches_81 : decode cX7_reaches 81 = .ok (.sipush 400, 3) := by decide +kernel
theorem dX7_reaches_84 : decode cX7_reaches 84 = .ok (.iload_n 2, 1) := by decide +kernel
theorem dX7_reaches_85 : decode cX7_reaches 85 = .ok (.iadd, 1) := by decide +kernel
theorem dX7_reaches_86 : decode cX7_reaches 86 = .ok (.iaload, 1) := by decide +kernel
theorem dX7_reaches_87 : decode cX7_reaches 87 = .ok (.iconst 1, 1) := by decide +kernel
theorem dX7_reaches_88 : decode cX7_reaches 88 = .ok (.if_icmp .ne 7, 3) := by decide +kernel
theorem dX7_reaches_91 : decode cX7_reaches 91 = .ok (.iload_n 2, 1) := by decide +kernel
theorem dX7_reaches_92 : decode cX7_reaches 92 = .ok (.goto 4, 3) := by decide +kernel
theorem dX7_reaches_95 : decode cX7_reaches 95 = .ok (.iconst (-1), 1) := by decide +kernel
theorem dX7_reaches_96 : decode cX7_reaches 96 = .ok (.iload_n 1, 1) := by decide +kernel
theorem dX7_reaches_97 : decode cX7_reaches 97 = .ok (.invokevirtual 60, 3) := by decide +kernel
theorem dX7_reaches_100 : decode cX7_reaches 100 = .ok (.iinc 2 1, 3) := by decide +kernel
theorem dX7_reaches_103 : decode cX7_reaches 103 = .ok (.goto (-50), 3) := by decide +kernel
theorem dX7_reaches_106 : decode cX7_reaches 106 = .ok (.iconst 1, 1) := by decide +kernel
theorem dX7_reaches_107 : decode cX7_reaches 107 = .ok (.istore_n 2, 1) := by decide +kernel
theorem dX7_reaches_108 : decode cX7_reaches 108 = .ok (.iconst 0, 1) := by decide +kernel
theorem dX7_reaches_109 : decode cX7_reaches 109 = .ok (.istore_n 3, 1) := by decide +kernel
theorem dX7_reaches_110 : decode cX7_reaches 110 = .ok (.iload_n 2, 1) := by decide +kernel
theorem dX7_reaches_111 : decode cX7_reaches 111 = .ok (.ifCond .eq 158, 3) := by decide +kernel
theorem dX7_reaches_114 : decode cX7_reaches 114 = .ok (.iconst 0, 1) := by decide +kernel
theorem dX7_reaches_115 : decode cX7_reaches 115 = .ok (.istore_n 2, 1) := by decide +kernel
theorem dX7_reaches_116 : decode cX7_reaches 116 = .ok (.iconst 0, 1) := by decide +kernel
theorem dX7_reaches_117 : decode cX7_reaches 117 = .ok (.istore 4, 2) := by decide +kernel
theorem dX7_reaches_119 : decode cX7_reaches 119 = .ok (.iload 4, 2) := by decide +kernel
theorem dX7_reaches_121 : decode cX7_reaches 121 = .ok (.aload_n 0, 1) := by decide +kernel
theorem dX7_reaches_122 : decode cX7_reaches 122 = .ok (.getfield 7, 3) := by decide +kernel
theorem dX7_reaches_125 : decode cX7_reaches 125 = .ok (.sipush 1216, 3) := by decide +kernel
theorem dX7_reaches_128 : decode cX7_reaches 128 = .ok (.iaload, 1) := by decide +kernel
theorem dX7_reaches_129 : decode cX7_reaches 129 = .ok (.if_icmp .ge 134, 3) := by decide +kernel
theorem dX7_reaches_132 : decode cX7_reaches 132 = .ok (.iconst 1, 1) := by decide +kernel
theorem dX7_reaches_133 : decode cX7_reaches 133 = .ok (.istore 5, 2) := by decide +kernel
theorem dX7_reaches_135 : decode cX7_reaches 135 = .ok (.iload 5, 2) := by decide +kernel
theorem dX7_reaches_137 : decode cX7_reaches 137 = .ok (.aload_n 0, 1) := by decide +kernel
theorem dX7_reaches_138 : decode cX7_reaches 138 = .ok (.getfield 7, 3) := by decide +kernel
theorem dX7_reaches_141 : decode cX7_reaches 141 = .ok (.sipush 200, 3) := by decide +kernel
theorem dX7_reaches_144 : decode cX7_reaches 144 = .ok (.iload 4, 2) := by decide +kernel
theorem dX7_reaches_146 : decode cX7_reaches 146 = .ok (.iadd, 1) := by decide +kernel
theorem dX7_reaches_147 : decode cX7_reaches 147 = .ok (.iaload, 1) := by decide +kernel
theorem dX7_reaches_148 : decode cX7_reaches 148 = .ok (.if_icmp .gt 109, 3) := by decide +kernel
theorem dX7_reaches_151 : decode cX7_reaches 151 = .ok (.aload_n 0, 1) := by decide +kernel
theorem dX7_reaches_152 : decode cX7_reaches 152 = .ok (.getfield 7, 3) := by decide +kernel
theorem dX7_reaches_155 : decode cX7_reaches 155 = .ok (.iconst 0, 1) := by decide +kernel
theorem dX7_reaches_156 : decode cX7_reaches 156 = .ok (.iload 4, 2) := by decide +kernel
theorem dX7_reaches_158 : decode cX7_reaches 158 = .ok (.iadd, 1) := by decide +kernel
theorem dX7_reaches_159 : decode cX7_reaches 159 = .ok (.iaload, 1) := by decide +kernel
theorem dX7_reaches_160 : decode cX7_reaches 160 = .ok (.ifCond .le 97, 3) := by decide +kernel
theorem dX7_reaches_163 : decode cX7_reaches 163 = .ok (.aload_n 0, 1) := by decide +kernel
theorem dX7_reaches_164 : decode cX7_reaches 164 = .ok (.getfield 30, 3) := by decide +kernel
theorem dX7_reaches_167 : decode cX7_reaches 167 = .ok (.iload 4, 2) := by decide +kernel
theorem dX7_reaches_169 : decode cX7_reaches 169 = .ok (.iaload, 1) := by decide +kernel
theorem dX7_reaches_170 : decode cX7_reaches 170 = .ok (.iload_n 3, 1) := by decide +kernel
theorem dX7_reaches_171 : decode cX7_reaches 171 = .ok (.if_icmp .ne 86, 3) := by decide +kernel
theorem dX7_reaches_174 : decode cX7_reaches 174 = .ok (.aload_n 0, 1) := by decide +kernel
theorem dX7_reaches_175 : decode cX7_reaches 175 = .ok (.getfield 7, 3) := by decide +kernel
theorem dX7_reaches_178 : decode cX7_reaches 178 = .ok (.sipush 800, 3) := by decide +kernel
theorem dX7_reaches_181 : decode cX7_reaches 181 = .ok (.iload 4, 2) := by decide +kernel
theorem dX7_reaches_183 : decode cX7_reaches 183 = .ok (.iadd, 1) := by decide +kernel
theorem dX7_reaches_184 : decode cX7_reaches 184 = .ok (.iload 5, 2) := by decide +kernel
theorem dX7_reaches_186 : decode cX7_reaches 186 = .ok (.iadd, 1) := by decide +kernel
theorem dX7_reaches_187 : decode cX7_reaches 187 = .ok (.iaload, 1) := by decide +kernel
theorem dX7_reaches_188 : decode cX7_reaches 188 = .ok (.iconst (-1), 1) := by decide +kernel
theorem dX7_reaches_189 : decode cX7_reaches 189 = .ok (.if_icmp .ne 7, 3) := by decide +kernel
theorem dX7_reaches_192 : decode cX7_reaches 192 = .ok (.iconst (-1), 1) := by decide +kernel
theorem dX7_reaches_193 : decode cX7_reaches 193 = .ok (.goto 21, 3) := by decide +kernel
theorem dX7_reaches_196 : decode cX7_reaches 196 = .ok (.aload_n 0, 1) := by decide +kernel
theorem dX7_reaches_197 : decode cX7_reaches 197 = .ok (.aload_n 0, 1) := by decide +kernel
theorem dX7_reaches_198 : decode cX7_reaches 198 = .ok (.getfield 7, 3) := by decide +kernel
theorem dX7_reaches_201 : decode cX7_reaches 201 = .ok (.sipush 800, 3) := by decide +kernel
theorem dX7_reaches_204 : decode cX7_reaches 204 = .ok (.iload 4, 2) := by decide +kernel
theorem dX7_reaches_206 : decode cX7_reaches 206 = .ok (.iadd, 1) := by decide +kernel
theorem dX7_reaches_207 : decode cX7_reaches 207 = .ok (.iload 5, 2) := by decide +kernel
theorem dX7_reaches_209 : decode cX7_reaches 209 = .ok (.iadd, 1) := by decide +kernel
theorem dX7_reaches_210 : decode cX7_reaches 210 = .ok (.iaload, 1) := by decide +kernel
theorem dX7_reaches_211 : decode cX7_reaches 211 = .ok (.invokevirtual 51, 3) := by decide +kernel
theorem dX7_reaches_214 : decode cX7_reaches 214 = .ok (.istore 6, 2) := by decide +kernel
theorem dX7_reaches_216 : decode cX7_reaches 216 = .ok (.iload 6, 2) := by decide +kernel
theorem dX7_reaches_218 : decode cX7_reaches 218 = .ok (.iconst (-1), 1) := by decide +kernel
theorem dX7_reaches_219 : decode cX7_reaches 219 = .ok (.if_icmp .eq 32, 3) := by decide +kernel
theorem dX7_reaches_222 : decode cX7_reaches 222 = .ok (.iload 6, 2) := by decide +kernel
theorem dX7_reaches_224 : decode cX7_reaches 224 = .ok (.iload_n 1, 1) := by decide +kernel
theorem dX7_reaches_225 : decode cX7_reaches 225 = .ok (.if_icmp .eq 26, 3) := by decide +kernel
theorem dX7_reaches_228 : decode cX7_reaches 228 = .ok (.aload_n 0, 1) := by decide +kernel
theorem dX7_reaches_229 : decode cX7_reaches 229 = .ok (.getfield 30, 3) := by decide +kernel
theorem dX7_reaches_232 : decode cX7_reaches 232 = .ok (.iload 6, 2) := by decide +kernel
theorem dX7_reaches_234 : decode cX7_reaches 234 = .ok (.iaload, 1) := by decide +kernel
theorem dX7_reaches_235 : decode cX7_reaches 235 = .ok (.iconst (-1), 1) := by decide +kernel
theorem dX7_reaches_236 : decode cX7_reaches 236 = .ok (.if_icmp .ne 15, 3) := by decide +kernel
theorem dX7_reaches_239 : decode cX7_reaches 239 = .ok (.aload_n 0, 1) := by decide +kernel
theorem dX7_reaches_240 : decode cX7_reaches 240 = .ok (.getfield 30, 3) := by decide +kernel
theorem dX7_reaches_243 : decode cX7_reaches 243 = .ok (.iload 6, 2) := by decide +kernel
theorem dX7_reaches_245 : decode cX7_reaches 245 = .ok (.iload_n 3, 1) := by decide +kernel
theorem dX7_reaches_246 : decode cX7_reaches 246 = .ok (.iconst 1, 1) := by decide +kernel
theorem dX7_reaches_247 : decode cX7_reaches 247 = .ok (.iadd, 1) := by decide +kernel
theorem dX7_reaches_248 : decode cX7_reaches 248 = .ok (.iastore, 1) := by decide +kernel
theorem dX7_reaches_249 : decode cX7_reaches 249 = .ok (.iconst 1, 1) := by decide +kernel
theorem dX7_reaches_250 : decode cX7_reaches 250 = .ok (.istore_n 2, 1) := by decide +kernel
theorem dX7_reaches_251 : decode cX7_reaches 251 = .ok (.iinc 5 1, 3) := by decide +kernel
theorem dX7_reaches_254 : decode cX7_reaches 254 = .ok (.goto (-119), 3) := by decide +kernel
theorem dX7_reaches_257 : decode cX7_reaches 257 = .ok (.iinc 4 1, 3) := by decide +kernel
theorem dX7_reaches_260 : decode cX7_reaches 260 = .ok (.goto (-141), 3) := by decide +kernel
theorem dX7_reaches_263 : decode cX7_reaches 263 = .ok (.iinc 3 1, 3) := by decide +kernel
theorem dX7_reaches_266 : decode cX7_reaches 266 = .ok (.goto (-156), 3) := by decide +kernel
theorem dX7_reaches_269 : decode cX7_reaches 269 = .ok (.return_, 1) := by decide +kernel
theorem dX7_reachedWords_0 : decode cX7_reachedWords 0 = .ok (.iconst 0, 1) := by decide +kernel
theorem dX7_reachedWords_1 : decode cX7_reachedWords 1 = .ok (.istore_n 1, 1) := by decide +kernel
theorem dX7_reachedWords_2 : decode cX7_reachedWords 2 = .ok (.iconst 0, 1) := by decide +kernel
theorem dX7_reachedWords_3 : decode cX7_reachedWords 3 = .ok (.istore_n 2, 1) := by decide +kernel
theorem dX7_reachedWords_4 : decode cX7_reachedWords 4 = .ok (.iload_n 2, 1) := by decide +kernel
theorem dX7_reachedWords_5 : decode cX7_reachedWords 5 = .ok (.aload_n 0, 1) := by decide +kernel
theorem dX7_reachedWords_6 : decode cX7_reachedWords 6 = .ok (.getfield 7, 3) := by decide +kernel
theorem dX7_reachedWords_9 : decode cX7_reachedWords 9 = .ok (.sipush 1216, 3) := by decide +kernel
theorem dX7_reachedWords_12 : decode cX7_reachedWords 12 = .ok (.iaload, 1) := by decide +kernel
theorem dX7_reachedWords_13 : decode cX7_reachedWords 13 = .ok (.if_icmp .ge 34, 3) := by decide +kernel
theorem dX7_reachedWords_16 : decode cX7_reachedWords 16 = .ok (.iload_n 1, 1) := by decide +kernel
theorem dX7_reachedWords_17 : decode cX7_reachedWords 17 = .ok (.aload_n 0, 1) := by decide +kernel
theorem dX7_reachedWords_18 : decode cX7_reachedWords 18 = .ok (.getfield 30, 3) := by decide +kernel
theorem dX7_reachedWords_21 : decode cX7_reachedWords 21 = .ok (.iload_n 2, 1) := by decide +kernel
theorem dX7_reachedWords_22 : decode cX7_reachedWords 22 = .ok (.iaload, 1) := by decide +kernel
theorem dX7_reachedWords_23 : decode cX7_reachedWords 23 = .ok (.iconst (-1), 1) := by decide +kernel
theorem dX7_reachedWords_24 : decode cX7_reachedWords 24 = .ok (.if_icmp .eq 14, 3) := by decide +kernel
theorem dX7_reachedWords_27 : decode cX7_reachedWords 27 = .ok (.aload_n 0, 1) := by decide +kernel
theorem dX7_reachedWords_28 : decode cX7_reachedWords 28 = .ok (.getfield 7, 3) := by decide +kernel
theorem dX7_reachedWords_31 : decode cX7_reachedWords 31 = .ok (.iconst 0, 1) := by decide +kernel
theorem dX7_reachedWords_32 : decode cX7_reachedWords 32 = .ok (.iload_n 2, 1) := by decide +kernel
theorem dX7_reachedWords_33 : decode cX7_reachedWords 33 = .ok (.iadd, 1) := by decide +kernel
theorem dX7_reachedWords_34 : decode cX7_reachedWords 34 = .ok (.iaload, 1) := by decide +kernel
theorem dX7_reachedWords_35 : decode cX7_reachedWords 35 = .ok (.goto 4, 3) := by decide +kernel
theorem dX7_reachedWords_38 : decode cX7_reachedWords 38 = .ok (.iconst 0, 1) := by decide +kernel
theorem dX7_reachedWords_39 : decode cX7_reachedWords 39 = .ok (.iadd, 1) := by decide +kernel
theorem dX7_reachedWords_40 : decode cX7_reachedWords 40 = .ok (.istore_n 1, 1) := by decide +kernel
theorem dX7_reachedWords_41 : decode cX7_reachedWords 41 = .ok (.iinc 2 1, 3) := by decide +kernel
theorem dX7_reachedWords_44 : decode cX7_reachedWords 44 = .ok (.goto (-40), 3) := by decide +kernel
theorem dX7_reachedWords_47 : decode cX7_reachedWords 47 = .ok (.iload_n 1, 1) := by decide +kernel
theorem dX7_reachedWords_48 : decode cX7_reachedWords 48 = .ok (.ireturn, 1) := by decide +kernel
theorem dX7_object_0 : decode cX7_object 0 = .ok (.aload_n 0, 1) := by decide +kernel
theorem dX7_object_1 : decode cX7_object 1 = .ok (.iload_n 1, 1) := by decide +kernel
theorem dX7_object_2 : decode cX7_object 2 = .ok (.invokevirtual 51, 3) := by decide +kernel
theorem dX7_object_5 : decode cX7_object 5 = .ok (.istore_n 3, 1) := by decide +kernel
theorem dX7_object_6 : decode cX7_object 6 = .ok (.iload_n 3, 1) := by decide +kernel
theorem dX7_object_7 : decode cX7_object 7 = .ok (.iconst (-1), 1) := by decide +kernel
theorem dX7_object_8 : decode cX7_object 8 = .ok (.if_icmp .eq 13, 3) := by decide +kernel
theorem dX7_object_11 : decode cX7_object 11 = .ok (.iload_n 2, 1) := by decide +kernel
theorem dX7_object_12 : decode cX7_object 12 = .ok (.iconst 0, 1) := by decide +kernel
theorem dX7_object_13 : decode cX7_object 13 = .ok (.bipush 7, 2) := by decide +kernel
theorem dX7_object_15 : decode cX7_object 15 = .ok (.invokestatic 46, 3) := by decide +kernel
theorem dX7_object_18 : decode cX7_object 18 = .ok (.ifCond .ne 6, 3) := by decide +kernel
theorem dX7_object_21 : decode cX7_object 21 = .ok (.ldc 50, 2) := by decide +kernel
theorem dX7_object_23 : decode cX7_object 23 = .ok (.ireturn, 1) := by decide +kernel
theorem dX7_object_24 : decode cX7_object 24 = .ok (.iload_n 2, 1) := by decide +kernel
theorem dX7_object_25 : decode cX7_object 25 = .ok (.tableswitch 99 0 6 #[43, 45, 54, 65, 71, 82, 93], 43) := by decide +kernel
theorem dX7_object_68 : decode cX7_object 68 = .ok (.iload_n 3, 1) := by decide +kernel
theorem dX7_object_69 : decode cX7_object 69 = .ok (.ireturn, 1) := by decide +kernel
theorem dX7_object_70 : decode cX7_object 70 = .ok (.aload_n 0, 1) := by decide +kernel
theorem dX7_object_71 : decode cX7_object 71 = .ok (.getfield 7, 3) := by decide +kernel
theorem dX7_object_74 : decode cX7_object 74 = .ok (.iconst 0, 1) := by decide +kernel
theorem dX7_object_75 : decode cX7_object 75 = .ok (.iload_n 3, 1) := by decide +kernel
theorem dX7_object_76 : decode cX7_object 76 = .ok (.iadd, 1) := by decide +kernel
theorem dX7_object_77 : decode cX7_object 77 = .ok (.iaload, 1) := by decide +kernel
theorem dX7_object_78 : decode cX7_object 78 = .ok (.ireturn, 1) := by decide +kernel
theorem dX7_object_79 : decode cX7_object 79 = .ok (.aload_n 0, 1) := by decide +kernel
theorem dX7_object_80 : decode cX7_object 80 = .ok (.getfield 7, 3) := by decide +kernel
theorem dX7_object_83 : decode cX7_object 83 = .ok (.sipush 200, 3) := by decide +kernel
theorem dX7_object_86 : decode cX7_object 86 = .ok (.iload_n 3, 1) := by decide +kernel
theorem dX7_object_87 : decode cX7_object 87 = .ok (.iadd, 1) := by decide +kernel
theorem dX7_object_88 : decode cX7_object 88 = .ok (.iaload, 1) := by decide +kernel
theorem dX7_object_89 : decode cX7_object 89 = .ok (.ireturn, 1) := by decide +kernel
theorem dX7_object_90 : decode cX7_object 90 = .ok (.aload_n 0, 1) := by decide +kernel
theorem dX7_object_91 : decode cX7_object 91 = .ok (.iload_n 3, 1) := by decide +kernel
theorem dX7_object_92 : decode cX7_object 92 = .ok (.invokevirtual 63, 3) := by decide +kernel
theorem dX7_object_95 : decode cX7_object 95 = .ok (.ireturn, 1) := by decide +kernel
theorem dX7_object_96 : decode cX7_object 96 = .ok (.aload_n 0, 1) := by decide +kernel
theorem dX7_object_97 : decode cX7_object 97 = .ok (.getfield 7, 3) := by decide +kernel
theorem dX7_object_100 : decode cX7_object 100 = .ok (.sipush 400, 3) := by decide +kernel
theorem dX7_object_103 : decode cX7_object 103 = .ok (.iload_n 3, 1) := by decide +kernel
theorem dX7_object_104 : decode cX7_object 104 = .ok (.iadd, 1) := by decide +kernel
theorem dX7_object_105 : decode cX7_object 105 = .ok (.iaload, 1) := by decide +kernel
theorem dX7_object_106 : decode cX7_object 106 = .ok (.ireturn, 1) := by decide +kernel
theorem dX7_object_107 : decode cX7_object 107 = .ok (.aload_n 0, 1) := by decide +kernel
theorem dX7_object_108 : decode cX7_object 108 = .ok (.getfield 7, 3) := by decide +kernel
theorem dX7_object_111 : decode cX7_object 111 = .ok (.sipush 600, 3) := by decide +kernel
theorem dX7_object_114 : decode cX7_object 114 = .ok (.iload_n 3, 1) := by decide +kernel
theorem dX7_object_115 : decode cX7_object 115 = .ok (.iadd, 1) := by decide +kernel
theorem dX7_object_116 : decode cX7_object 116 = .ok (.iaload, 1) := by decide +kernel
theorem dX7_object_117 : decode cX7_object 117 = .ok (.ireturn, 1) := by decide +kernel
theorem dX7_object_118 : decode cX7_object 118 = .ok (.aload_n 0, 1) := by decide +kernel
theorem dX7_object_119 : decode cX7_object 119 = .ok (.iload_n 3, 1) := by decide +kernel
theorem dX7_object_120 : decode cX7_object 120 = .ok (.invokevirtual 66, 3) := by decide +kernel
theorem dX7_object_123 : decode cX7_object 123 = .ok (.ireturn, 1) := by decide +kernel
theorem dX7_object_124 : decode cX7_object 124 = .ok (.aload_n 0, 1) := by decide +kernel
theorem dX7_object_125 : decode cX7_object 125 = .ok (.iconst (-1), 1) := by decide +kernel
theorem dX7_object_126 : decode cX7_object 126 = .ok (.invokevirtual 69, 3) := by decide +kernel
theorem dX7_object_129 : decode cX7_object 129 = .ok (.aload_n 0, 1) := by decide +kernel
theorem dX7_object_130 : decode cX7_object 130 = .ok (.getfield 30, 3) := by decide +kernel
theorem dX7_object_133 : decode cX7_object 133 = .ok (.iload_n 3, 1) := by decide +kernel
theorem dX7_object_134 : decode cX7_object 134 = .ok (.iaload, 1) := by decide +kernel
theorem dX7_object_135 : decode cX7_object 135 = .ok (.iconst (-1), 1) := by decide +kernel
theorem dX7_object_136 : decode cX7_object 136 = .ok (.if_icmp .eq 7, 3) := by decide +kernel
theorem dX7_object_139 : decode cX7_object 139 = .ok (.iconst 1, 1) := by decide +kernel
theorem dX7_object_140 : decode cX7_object 140 = .ok (.goto 4, 3) := by decide +kernel
theorem dX7_object_143 : decode cX7_object 143 = .ok (.iconst 0, 1) := by decide +kernel
theorem dX7_object_144 : decode cX7_object 144 = .ok (.ireturn, 1) := by decide +kernel
theorem dX7_objectFrom_0 : decode cX7_objectFrom 0 = .ok (.iload_n 1, 1) := by decide +kernel
theorem dX7_objectFrom_1 : decode cX7_objectFrom 1 = .ok (.istore_n 2, 1) := by decide +kernel
theorem dX7_objectFrom_2 : decode cX7_objectFrom 2 = .ok (.iload_n 2, 1) := by decide +kernel
theorem dX7_objectFrom_3 : decode cX7_objectFrom 3 = .ok (.aload_n 0, 1) := by decide +kernel
theorem dX7_objectFrom_4 : decode cX7_objectFrom 4 = .ok (.getfield 7, 3) := by decide +kernel
theorem dX7_objectFrom_7 : decode cX7_objectFrom 7 = .ok (.sipush 1216, 3) := by decide +kernel
theorem dX7_objectFrom_10 : decode cX7_objectFrom 10 = .ok (.iaload, 1) := by decide +kernel
theorem dX7_objectFrom_11 : decode cX7_objectFrom 11 = .ok (.if_icmp .ge 22, 3) := by decide +kernel
theorem dX7_objectFrom_14 : decode cX7_objectFrom 14 = .ok (.aload_n 0, 1) := by decide +kernel
theorem dX7_objectFrom_15 : decode cX7_objectFrom 15 = .ok (.getfield 7, 3) := by decide +kernel
theorem dX7_objectFrom_18 : decode cX7_objectFrom 18 = .ok (.iconst 0, 1) := by decide +kernel
theorem dX7_objectFrom_19 : decode cX7_objectFrom 19 = .ok (.iload_n 2, 1) := by decide +kernel
theorem dX7_objectFrom_20 : decode cX7_objectFrom 20 = .ok (.iadd, 1) := by decide +kernel
theorem dX7_objectFrom_21 : decode cX7_objectFrom 21 = .ok (.iaload, 1) := by decide +kernel
theorem dX7_objectFrom_22 : decode cX7_objectFrom 22 = .ok (.ifCond .le 5, 3) := by decide +kernel
theorem dX7_objectFrom_25 : decode cX7_objectFrom 25 = .ok (.iload_n 2, 1) := by decide +kernel
theorem dX7_objectFrom_26 : decode cX7_objectFrom 26 = .ok (.ireturn, 1) := by decide +kernel
theorem dX7_objectFrom_27 : decode cX7_objectFrom 27 = .ok (.iinc 2 1, 3) := by decide +kernel
theorem dX7_objectFrom_30 : decode cX7_objectFrom 30 = .ok (.goto (-28), 3) := by decide +kernel
theorem dX7_objectFrom_33 : decode cX7_objectFrom 33 = .ok (.iconst (-1), 1) := by decide +kernel
theorem dX7_objectFrom_34 : decode cX7_objectFrom 34 = .ok (.ireturn, 1) := by decide +kernel
theorem dX7_next_0 : decode cX7_next 0 = .ok (.iload_n 1, 1) := by decide +kernel
theorem dX7_next_1 : decode cX7_next 1 = .ok (.iconst (-1), 1) := by decide +kernel
theorem dX7_next_2 : decode cX7_next 2 = .ok (.if_icmp .ne 9, 3) := by decide +kernel
theorem dX7_next_5 : decode cX7_next 5 = .ok (.aload_n 0, 1) := by decide +kernel
theorem dX7_next_6 : decode cX7_next 6 = .ok (.iconst 0, 1) := by decide +kernel
theorem dX7_next_7 : decode cX7_next 7 = .ok (.invokevirtual 73, 3) := by decide +kernel
theorem dX7_next_10 : decode cX7_next 10 = .ok (.ireturn, 1) := by decide +kernel
theorem dX7_next_11 : decode cX7_next 11 = .ok (.aload_n 0, 1) := by decide +kernel
theorem dX7_next_12 : decode cX7_next 12 = .ok (.iload_n 1, 1) := by decide +kernel
theorem dX7_next_13 : decode cX7_next 13 = .ok (.invokevirtual 51, 3) := by decide +kernel
theorem dX7_next_16 : decode cX7_next 16 = .ok (.istore_n 2, 1) := by decide +kernel
theorem dX7_next_17 : decode cX7_next 17 = .ok (.iload_n 2, 1) := by decide +kernel
theorem dX7_next_18 : decode cX7_next 18 = .ok (.iconst (-1), 1) := by decide +kernel
theorem dX7_next_19 : decode cX7_next 19 = .ok (.if_icmp .ne 8, 3) := by decide +kernel
theorem dX7_next_22 : decode cX7_next 22 = .ok (.ldc 50, 2) := by decide +kernel
theorem dX7_next_24 : decode cX7_next 24 = .ok (.goto 10, 3) := by decide +kernel
theorem dX7_next_27 : decode cX7_next 27 = .ok (.aload_n 0, 1) := by decide +kernel
theorem dX7_next_28 : decode cX7_next 28 = .ok (.iload_n 2, 1) := by decide +kernel
theorem dX7_next_29 : decode cX7_next 29 = .ok (.iconst 1, 1) := by decide +kernel
theorem dX7_next_30 : decode cX7_next 30 = .ok (.iadd, 1) := by decide +kernel
theorem dX7_next_31 : decode cX7_next 31 = .ok (.invokevirtual 73, 3) := by decide +kernel
theorem dX7_next_34 : decode cX7_next 34 = .ok (.ireturn, 1) := by decide +kernel
theorem dX7_setField_0 : decode cX7_setField 0 = .ok (.aload_n 0, 1) := by decide +kernel
theorem dX7_setField_1 : decode cX7_setField 1 = .ok (.iload_n 1, 1) := by decide +kernel
theorem dX7_setField_2 : decode cX7_setField 2 = .ok (.invokevirtual 51, 3) := by decide +kernel
theorem dX7_setField_5 : decode cX7_setField 5 = .ok (.istore 4, 2) := by decide +kernel
theorem dX7_setField_7 : decode cX7_setField 7 = .ok (.iload 4, 2) := by decide +kernel
theorem dX7_setField_9 : decode cX7_setField 9 = .ok (.iconst (-1), 1) := by decide +kernel
theorem dX7_setField_10 : decode cX7_setField 10 = .ok (.if_icmp .eq 32, 3) := by decide +kernel
theorem dX7_setField_13 : decode cX7_setField 13 = .ok (.iload_n 2, 1) := by decide +kernel
theorem dX7_setField_14 : decode cX7_setField 14 = .ok (.iconst 0, 1) := by decide +kernel
theorem dX7_setField_15 : decode cX7_setField 15 = .ok (.aload_n 0, 1) := by decide +kernel
theorem dX7_setField_16 : decode cX7_setField 16 = .ok (.getfield 7, 3) := by decide +kernel
theorem dX7_setField_19 : decode cX7_setField 19 = .ok (.sipush 200, 3) := by decide +kernel
theorem dX7_setField_22 : decode cX7_setField 22 = .ok (.iload 4, 2) := by decide +kernel
theorem dX7_setField_24 : decode cX7_setField 24 = .ok (.iadd, 1) := by decide +kernel
theorem dX7_setField_25 : decode cX7_setField 25 = .ok (.iaload, 1) := by decide +kernel
theorem dX7_setField_26 : decode cX7_setField 26 = .ok (.iconst 1, 1) := by decide +kernel
theorem dX7_setField_27 : decode cX7_setField 27 = .ok (.isub, 1) := by decide +kernel
theorem dX7_setField_28 : decode cX7_setField 28 = .ok (.invokestatic 46, 3) := by decide +kernel
theorem dX7_setField_31 : decode cX7_setField 31 = .ok (.ifCond .eq 11, 3) := by decide +kernel
theorem dX7_setField_34 : decode cX7_setField 34 = .ok (.aload_n 0, 1) := by decide +kernel
theorem dX7_setField_35 : decode cX7_setField 35 = .ok (.iload_n 3, 1) := by decide +kernel
theorem dX7_setField_36 : decode cX7_setField 36 = .ok (.invokevirtual 76, 3) := by decide +kernel
theorem dX7_setField_39 : decode cX7_setField 39 = .ok (.ifCond .ne 6, 3) := by decide +kernel
theorem dX7_setField_42 : decode cX7_setField 42 = .ok (.ldc 50, 2) := by decide +kernel
theorem dX7_setField_44 : decode cX7_setField 44 = .ok (.ireturn, 1) := by decide +kernel
theorem dX7_setField_45 : decode cX7_setField 45 = .ok (.aload_n 0, 1) := by decide +kernel
theorem dX7_setField_46 : decode cX7_setField 46 = .ok (.getfield 7, 3) := by decide +kernel
theorem dX7_setField_49 : decode cX7_setField 49 = .ok (.sipush 800, 3) := by decide +kernel
theorem dX7_setField_52 : decode cX7_setField 52 = .ok (.iload 4, 2) := by decide +kernel
theorem dX7_setField_54 : decode cX7_setField 54 = .ok (.iadd, 1) := by decide +kernel
theorem dX7_setField_55 : decode cX7_setField 55 = .ok (.iconst 1, 1) := by decide +kernel
theorem dX7_setField_56 : decode cX7_setField 56 = .ok (.iadd, 1) := by decide +kernel
theorem dX7_setField_57 : decode cX7_setField 57 = .ok (.iload_n 2, 1) := by decide +kernel
theorem dX7_setField_58 : decode cX7_setField 58 = .ok (.iadd, 1) := by decide +kernel
theorem dX7_setField_59 : decode cX7_setField 59 = .ok (.iaload, 1) := by decide +kernel
theorem dX7_setField_60 : decode cX7_setField 60 = .ok (.istore 5, 2) := by decide +kernel
theorem dX7_setField_62 : decode cX7_setField 62 = .ok (.aload_n 0, 1) := by decide +kernel
theorem dX7_setField_63 : decode cX7_setField 63 = .ok (.getfield 7, 3) := by decide +kernel
theorem dX7_setField_66 : decode cX7_setField 66 = .ok (.sipush 800, 3) := by decide +kernel
theorem dX7_setField_69 : decode cX7_setField 69 = .ok (.iload 4, 2) := by decide +kernel
theorem dX7_setField_71 : decode cX7_setField 71 = .ok (.iadd, 1) := by decide +kernel
theorem dX7_setField_72 : decode cX7_setField 72 = .ok (.iconst 1, 1) := by decide +kernel
theorem dX7_setField_73 : decode cX7_setField 73 = .ok (.iadd, 1) := by decide +kernel
theorem dX7_setField_74 : decode cX7_setField 74 = .ok (.iload_n 2, 1) := by decide +kernel
theorem dX7_setField_75 : decode cX7_setField 75 = .ok (.iadd, 1) := by decide +kernel
theorem dX7_setField_76 : decode cX7_setField 76 = .ok (.iload_n 3, 1) := by decide +kernel
theorem dX7_setField_77 : decode cX7_setField 77 = .ok (.iastore, 1) := by decide +kernel
theorem dX7_setField_78 : decode cX7_setField 78 = .ok (.iload 5, 2) := by decide +kernel
theorem dX7_setField_80 : decode cX7_setField 80 = .ok (.ireturn, 1) := by decide +kernel
theorem dX7_field_0 : decode cX7_field 0 = .ok (.aload_n 0, 1) := by decide +kernel
theorem dX7_field_1 : decode cX7_field 1 = .ok (.iload_n 1, 1) := by decide +kernel
theorem dX7_field_2 : decode cX7_field 2 = .ok (.invokevirtual 51, 3) := by decide +kernel
theorem dX7_field_5 : decode cX7_field 5 = .ok (.istore_n 3, 1) := by decide +kernel
theorem dX7_field_6 : decode cX7_field 6 = .ok (.iload_n 3, 1) := by decide +kernel
theorem dX7_field_7 : decode cX7_field 7 = .ok (.iconst (-1), 1) := by decide +kernel
theorem dX7_field_8 : decode cX7_field 8 = .ok (.if_icmp .eq 23, 3) := by decide +kernel
theorem dX7_field_11 : decode cX7_field 11 = .ok (.iload_n 2, 1) := by decide +kernel
theorem dX7_field_12 : decode cX7_field 12 = .ok (.iconst 0, 1) := by decide +kernel
theorem dX7_field_13 : decode cX7_field 13 = .ok (.aload_n 0, 1) := by decide +kernel
theorem dX7_field_14 : decode cX7_field 14 = .ok (.getfield 7, 3) := by decide +kernel
theorem dX7_field_17 : decode cX7_field 17 = .ok (.sipush 200, 3) := by decide +kernel
theorem dX7_field_20 : decode cX7_field 20 = .ok (.iload_n 3, 1) := by decide +kernel
theorem dX7_field_21 : decode cX7_field 21 = .ok (.iadd, 1) := by decide +kernel
theorem dX7_field_22 : decode cX7_field 22 = .ok (.iaload, 1) := by decide +kernel
theorem dX7_field_23 : decode cX7_field 23 = .ok (.iconst 1, 1) := by decide +kernel
theorem dX7_field_24 : decode cX7_field 24 = .ok (.isub, 1) := by decide +kernel
theorem dX7_field_25 : decode cX7_field 25 = .ok (.invokestatic 46, 3) := by decide +kernel
theorem dX7_field_28 : decode cX7_field 28 = .ok (.ifCond .ne 8, 3) := by decide +kernel
theorem dX7_field_31 : decode cX7_field 31 = .ok (.ldc 50, 2) := by decide +kernel
theorem dX7_field_33 : decode cX7_field 33 = .ok (.goto 17, 3) := by decide +kernel
theorem dX7_field_36 : decode cX7_field 36 = .ok (.aload_n 0, 1) := by decide +kernel
theorem dX7_field_37 : decode cX7_field 37 = .ok (.getfield 7, 3) := by decide +kernel
theorem dX7_field_40 : decode cX7_field 40 = .ok (.sipush 800, 3) := by decide +kernel
theorem dX7_field_43 : decode cX7_field 43 = .ok (.iload_n 3, 1) := by decide +kernel
theorem dX7_field_44 : decode cX7_field 44 = .ok (.iadd, 1) := by decide +kernel
theorem dX7_field_45 : decode cX7_field 45 = .ok (.iconst 1, 1) := by decide +kernel
theorem dX7_field_46 : decode cX7_field 46 = .ok (.iadd, 1) := by decide +kernel
theorem dX7_field_47 : decode cX7_field 47 = .ok (.iload_n 2, 1) := by decide +kernel
theorem dX7_field_48 : decode cX7_field 48 = .ok (.iadd, 1) := by decide +kernel
theorem dX7_field_49 : decode cX7_field 49 = .ok (.iaload, 1) := by decide +kernel
theorem dX7_field_50 : decode cX7_field 50 = .ok (.ireturn, 1) := by decide +kernel
theorem dX7_setData_0 : decode cX7_setData 0 = .ok (.aload_n 0, 1) := by decide +kernel
theorem dX7_setData_1 : decode cX7_setData 1 = .ok (.iload_n 1, 1) := by decide +kernel
theorem dX7_setData_2 : decode cX7_setData 2 = .ok (.invokevirtual 51, 3) := by decide +kernel
theorem dX7_setData_5 : decode cX7_setData 5 = .ok (.istore 4, 2) := by decide +kernel
theorem dX7_setData_7 : decode cX7_setData 7 = .ok (.iload 4, 2) := by decide +kernel
theorem dX7_setData_9 : decode cX7_setData 9 = .ok (.iconst (-1), 1) := by decide +kernel
theorem dX7_setData_10 : decode cX7_setData 10 = .ok (.if_icmp .eq 30, 3) := by decide +kernel
theorem dX7_setData_13 : decode cX7_setData 13 = .ok (.iload_n 2, 1) := by decide +kernel
theorem dX7_setData_14 : decode cX7_setData 14 = .ok (.iconst 0, 1) := by decide +kernel
theorem dX7_setData_15 : decode cX7_setData 15 = .ok (.aload_n 0, 1) := by decide +kernel
theorem dX7_setData_16 : decode cX7_setData 16 = .ok (.iload 4, 2) := by decide +kernel
theorem dX7_setData_18 : decode cX7_setData 18 = .ok (.invokevirtual 63, 3) := by decide +kernel
theorem dX7_setData_21 : decode cX7_setData 21 = .ok (.iconst 1, 1) := by decide +kernel
theorem dX7_setData_22 : decode cX7_setData 22 = .ok (.isub, 1) := by decide +kernel
theorem dX7_setData_23 : decode cX7_setData 23 = .ok (.invokestatic 46, 3) := by decide +kernel
theorem dX7_setData_26 : decode cX7_setData 26 = .ok (.ifCond .eq 14, 3) := by decide +kernel
theorem dX7_setData_29 : decode cX7_setData 29 = .ok (.iload_n 3, 1) := by decide +kernel
theorem dX7_setData_30 : decode cX7_setData 30 = .ok (.ldc 80, 2) := by decide +kernel
theorem dX7_setData_32 : decode cX7_setData 32 = .ok (.ldc 81, 2) := by decide +kernel
theorem dX7_setData_34 : decode cX7_setData 34 = .ok (.invokestatic 46, 3) := by decide +kernel
theorem dX7_setData_37 : decode cX7_setData 37 = .ok (.ifCond .ne 6, 3) := by decide +kernel
theorem dX7_setData_40 : decode cX7_setData 40 = .ok (.ldc 50, 2) := by decide +kernel
theorem dX7_setData_42 : decode cX7_setData 42 = .ok (.ireturn, 1) := by decide +kernel
theorem dX7_setData_43 : decode cX7_setData 43 = .ok (.sipush 800, 3) := by decide +kernel
theorem dX7_setData_46 : decode cX7_setData 46 = .ok (.iload 4, 2) := by decide +kernel
theorem dX7_setData_48 : decode cX7_setData 48 = .ok (.iadd, 1) := by decide +kernel
theorem dX7_setData_49 : decode cX7_setData 49 = .ok (.iconst 1, 1) := by decide +kernel
theorem dX7_setData_50 : decode cX7_setData 50 = .ok (.iadd, 1) := by decide +kernel
theorem dX7_setData_51 : decode cX7_setData 51 = .ok (.aload_n 0, 1) := by decide +kernel
theorem dX7_setData_52 : decode cX7_setData 52 = .ok (.getfield 7, 3) := by decide +kernel
theorem dX7_setData_55 : decode cX7_setData 55 = .ok (.sipush 200, 3) := by decide +kernel
theorem dX7_setData_58 : decode cX7_setData 58 = .ok (.iload 4, 2) := by decide +kernel
theorem dX7_setData_60 : decode cX7_setData 60 = .ok (.iadd, 1) := by decide +kernel
theorem dX7_setData_61 : decode cX7_setData 61 = .ok (.iaload, 1) := by decide +kernel
theorem dX7_setData_62 : decode cX7_setData 62 = .ok (.iadd, 1) := by decide +kernel
theorem dX7_setData_63 : decode cX7_setData 63 = .ok (.iload_n 2, 1) := by decide +kernel
theorem dX7_setData_64 : decode cX7_setData 64 = .ok (.iadd, 1) := by decide +kernel
theorem dX7_setData_65 : decode cX7_setData 65 = .ok (.istore 5, 2) := by decide +kernel
theorem dX7_setData_67 : decode cX7_setData 67 = .ok (.aload_n 0, 1) := by decide +kernel
theorem dX7_setData_68 : decode cX7_setData 68 = .ok (.getfield 7, 3) := by decide +kernel
theorem dX7_setData_71 : decode cX7_setData 71 = .ok (.iload 5, 2) := by decide +kernel
theorem dX7_setData_73 : decode cX7_setData 73 = .ok (.iaload, 1) := by decide +kernel
theorem dX7_setData_74 : decode cX7_setData 74 = .ok (.istore 6, 2) := by decide +kernel
theorem dX7_setData_76 : decode cX7_setData 76 = .ok (.aload_n 0, 1) := by decide +kernel
theorem dX7_setData_77 : decode cX7_setData 77 = .ok (.getfield 7, 3) := by decide +kernel
theorem dX7_setData_80 : decode cX7_setData 80 = .ok (.iload 5, 2) := by decide +kernel
theorem dX7_setData_82 : decode cX7_setData 82 = .ok (.iload_n 3, 1) := by decide +kernel
theorem dX7_setData_83 : decode cX7_setData 83 = .ok (.iastore, 1) := by decide +kernel
theorem dX7_setData_84 : decode cX7_setData 84 = .ok (.iload 6, 2) := by decide +kernel
theorem dX7_setData_86 : decode cX7_setData 86 = .ok (.ireturn, 1) := by decide +kernel
theorem dX7_data_0 : decode cX7_data 0 = .ok (.aload_n 0, 1) := by decide +kernel
theorem dX7_data_1 : decode cX7_data 1 = .ok (.iload_n 1, 1) := by decide +kernel
theorem dX7_data_2 : decode cX7_data 2 = .ok (.invokevirtual 51, 3) := by decide +kernel
theorem dX7_data_5 : decode cX7_data 5 = .ok (.istore_n 3, 1) := by decide +kernel
theorem dX7_data_6 : decode cX7_data 6 = .ok (.iload_n 3, 1) := by decide +kernel
theorem dX7_data_7 : decode cX7_data 7 = .ok (.iconst (-1), 1) := by decide +kernel
theorem dX7_data_8 : decode cX7_data 8 = .ok (.if_icmp .eq 18, 3) := by decide +kernel
theorem dX7_data_11 : decode cX7_data 11 = .ok (.iload_n 2, 1) := by decide +kernel
theorem dX7_data_12 : decode cX7_data 12 = .ok (.iconst 0, 1) := by decide +kernel
theorem dX7_data_13 : decode cX7_data 13 = .ok (.aload_n 0, 1) := by decide +kernel
theorem dX7_data_14 : decode cX7_data 14 = .ok (.iload_n 3, 1) := by decide +kernel
theorem dX7_data_15 : decode cX7_data 15 = .ok (.invokevirtual 63, 3) := by decide +kernel
theorem dX7_data_18 : decode cX7_data 18 = .ok (.iconst 1, 1) := by decide +kernel
theorem dX7_data_19 : decode cX7_data 19 = .ok (.isub, 1) := by decide +kernel
theorem dX7_data_20 : decode cX7_data 20 = .ok (.invokestatic 46, 3) := by decide +kernel
theorem dX7_data_23 : decode cX7_data 23 = .ok (.ifCond .ne 8, 3) := by decide +kernel
theorem dX7_data_26 : decode cX7_data 26 = .ok (.ldc 50, 2) := by decide +kernel
theorem dX7_data_28 : decode cX7_data 28 = .ok (.goto 28, 3) := by decide +kernel
theorem dX7_data_31 : decode cX7_data 31 = .ok (.aload_n 0, 1) := by decide +kernel
theorem dX7_data_32 : decode cX7_data 32 = .ok (.getfield 7, 3) := by decide +kernel
theorem dX7_data_35 : decode cX7_data 35 = .ok (.sipush 800, 3) := by decide +kernel
theorem dX7_data_38 : decode cX7_data 38 = .ok (.iload_n 3, 1) := by decide +kernel
theorem dX7_data_39 : decode cX7_data 39 = .ok (.iadd, 1) := by decide +kernel
theorem dX7_data_40 : decode cX7_data 40 = .ok (.iconst 1, 1) := by decide +kernel
theorem dX7_data_41 : decode cX7_data 41 = .ok (.iadd, 1) := by decide +kernel
theorem dX7_data_42 : decode cX7_data 42 = .ok (.aload_n 0, 1) := by decide +kernel
theorem dX7_data_43 : decode cX7_data 43 = .ok (.getfield 7, 3) := by decide +kernel
theorem dX7_data_46 : decode cX7_data 46 = .ok (.sipush 200, 3) := by decide +kernel
theorem dX7_data_49 : decode cX7_data 49 = .ok (.iload_n 3, 1) := by decide +kernel
theorem dX7_data_50 : decode cX7_data 50 = .ok (.iadd, 1) := by decide +kernel
theorem dX7_data_51 : decode cX7_data 51 = .ok (.iaload, 1) := by decide +kernel
theorem dX7_data_52 : decode cX7_data 52 = .ok (.iadd, 1) := by decide +kernel
theorem dX7_data_53 : decode cX7_data 53 = .ok (.iload_n 2, 1) := by decide +kernel
theorem dX7_data_54 : decode cX7_data 54 = .ok (.iadd, 1) := by decide +kernel
theorem dX7_data_55 : decode cX7_data 55 = .ok (.iaload, 1) := by decide +kernel
theorem dX7_data_56 : decode cX7_data 56 = .ok (.ireturn, 1) := by decide +kernel
theorem dX7_many_0 : decode cX7_many 0 = .ok (.iconst 0, 1) := by decide +kernel
theorem dX7_many_1 : decode cX7_many 1 = .ok (.istore_n 2, 1) := by decide +kernel
theorem dX7_many_2 : decode cX7_many 2 = .ok (.iconst 0, 1) := by decide +kernel
theorem dX7_many_3 : decode cX7_many 3 = .ok (.istore_n 3, 1) := by decide +kernel
theorem dX7_many_4 : decode cX7_many 4 = .ok (.iload_n 3, 1) := by decide +kernel
theorem dX7_many_5 : decode cX7_many 5 = .ok (.aload_n 0, 1) := by decide +kernel
theorem dX7_many_6 : decode cX7_many 6 = .ok (.getfield 7, 3) := by decide +kernel
theorem dX7_many_9 : decode cX7_many 9 = .ok (.sipush 1216, 3) := by decide +kernel
theorem dX7_many_12 : decode cX7_many 12 = .ok (.iaload, 1) := by decide +kernel
theorem dX7_many_13 : decode cX7_many 13 = .ok (.if_icmp .ge 46, 3) := by decide +kernel
theorem dX7_many_16 : decode cX7_many 16 = .ok (.iload_n 2, 1) := by decide +kernel
theorem dX7_many_17 : decode cX7_many 17 = .ok (.aload_n 0, 1) := by decide +kernel
theorem dX7_many_18 : decode cX7_many 18 = .ok (.getfield 7, 3) := by decide +kernel
theorem dX7_many_21 : decode cX7_many 21 = .ok (.iconst 0, 1) := by decide +kernel
theorem dX7_many_22 : decode cX7_many 22 = .ok (.iload_n 3, 1) := by decide +kernel
theorem dX7_many_23 : decode cX7_many 23 = .ok (.iadd, 1) := by decide +kernel
theorem dX7_many_24 : decode cX7_many 24 = .ok (.iaload, 1) := by decide +kernel
theorem dX7_many_25 : decode cX7_many 25 = .ok (.ifCond .le 25, 3) := by decide +kernel
theorem dX7_many_28 : decode cX7_many 28 = .ok (.iload_n 1, 1) := by decide +kernel
theorem dX7_many_29 : decode cX7_many 29 = .ok (.ifCond .eq 17, 3) := by decide +kernel
theorem dX7_many_32 : decode cX7_many 32 = .ok (.aload_n 0, 1) := by decide +kernel
theorem dX7_many_33 : decode cX7_many 33 = .ok (.getfield 7, 3) := by decide +kernel
theorem dX7_many_36 : decode cX7_many 36 = .ok (.sipush 400, 3) := by decide +kernel
theorem dX7_many_39 : decode cX7_many 39 = .ok (.iload_n 3, 1) := by decide +kernel
theorem dX7_many_40 : decode cX7_many 40 = .ok (.iadd, 1) := by decide +kernel
theorem dX7_many_41 : decode cX7_many 41 = .ok (.iaload, 1) := by decide +kernel
theorem dX7_many_42 : decode cX7_many 42 = .ok (.iconst 1, 1) := by decide +kernel
theorem dX7_many_43 : decode cX7_many 43 = .ok (.if_icmp .ne 7, 3) := by decide +kernel
theorem dX7_many_46 : decode cX7_many 46 = .ok (.iconst 1, 1) := by decide +kernel
theorem dX7_many_47 : decode cX7_many 47 = .ok (.goto 4, 3) := by decide +kernel
theorem dX7_many_50 : decode cX7_many 50 = .ok (.iconst 0, 1) := by decide +kernel
theorem dX7_many_51 : decode cX7_many 51 = .ok (.iadd, 1) := by decide +kernel
theorem dX7_many_52 : decode cX7_many 52 = .ok (.istore_n 2, 1) := by decide +kernel
theorem dX7_many_53 : decode cX7_many 53 = .ok (.iinc 3 1, 3) := by decide +kernel
theorem dX7_many_56 : decode cX7_many 56 = .ok (.goto (-52), 3) := by decide +kernel
theorem dX7_many_59 : decode cX7_many 59 = .ok (.iload_n 2, 1) := by decide +kernel
theorem dX7_many_60 : decode cX7_many 60 = .ok (.ireturn, 1) := by decide +kernel
theorem dX7_pin_0 : decode cX7_pin 0 = .ok (.aload_n 0, 1) := by decide +kernel
theorem dX7_pin_1 : decode cX7_pin 1 = .ok (.iload_n 1, 1) := by decide +kernel
theorem dX7_pin_2 : decode cX7_pin 2 = .ok (.invokevirtual 51, 3) := by decide +kernel
theorem dX7_pin_5 : decode cX7_pin 5 = .ok (.istore_n 3, 1) := by decide +kernel
theorem dX7_pin_6 : decode cX7_pin 6 = .ok (.iload_n 3, 1) := by decide +kernel
theorem dX7_pin_7 : decode cX7_pin 7 = .ok (.iconst (-1), 1) := by decide +kernel
theorem dX7_pin_8 : decode cX7_pin 8 = .ok (.if_icmp .ne 6, 3) := by decide +kernel
theorem dX7_pin_11 : decode cX7_pin 11 = .ok (.ldc 50, 2) := by decide +kernel
theorem dX7_pin_13 : decode cX7_pin 13 = .ok (.ireturn, 1) := by decide +kernel
theorem dX7_pin_14 : decode cX7_pin 14 = .ok (.aload_n 0, 1) := by decide +kernel
theorem dX7_pin_15 : decode cX7_pin 15 = .ok (.getfield 7, 3) := by decide +kernel
theorem dX7_pin_18 : decode cX7_pin 18 = .ok (.sipush 400, 3) := by decide +kernel
theorem dX7_pin_21 : decode cX7_pin 21 = .ok (.iload_n 3, 1) := by decide +kernel
theorem dX7_pin_22 : decode cX7_pin 22 = .ok (.iadd, 1) := by decide +kernel
theorem dX7_pin_23 : decode cX7_pin 23 = .ok (.iaload, 1) := by decide +kernel
theorem dX7_pin_24 : decode cX7_pin 24 = .ok (.iload_n 2, 1) := by decide +kernel
theorem dX7_pin_25 : decode cX7_pin 25 = .ok (.ifCond .eq 7, 3) := by decide +kernel
theorem dX7_pin_28 : decode cX7_pin 28 = .ok (.iconst 1, 1) := by decide +kernel
theorem dX7_pin_29 : decode cX7_pin 29 = .ok (.goto 4, 3) := by decide +kernel
theorem dX7_pin_32 : decode cX7_pin 32 = .ok (.iconst 0, 1) := by decide +kernel
theorem dX7_pin_33 : decode cX7_pin 33 = .ok (.if_icmp .ne 6, 3) := by decide +kernel
theorem dX7_pin_36 : decode cX7_pin 36 = .ok (.ldc 82, 2) := by decide +kernel
theorem dX7_pin_38 : decode cX7_pin 38 = .ok (.ireturn, 1) := by decide +kernel
theorem dX7_pin_39 : decode cX7_pin 39 = .ok (.aload_n 0, 1) := by decide +kernel
theorem dX7_pin_40 : decode cX7_pin 40 = .ok (.getfield 7, 3) := by decide +kernel
theorem dX7_pin_43 : decode cX7_pin 43 = .ok (.sipush 400, 3) := by decide +kernel
theorem dX7_pin_46 : decode cX7_pin 46 = .ok (.iload_n 3, 1) := by decide +kernel
theorem dX7_pin_47 : decode cX7_pin 47 = .ok (.iadd, 1) := by decide +kernel
theorem dX7_pin_48 : decode cX7_pin 48 = .ok (.iload_n 2, 1) := by decide +kernel
theorem dX7_pin_49 : decode cX7_pin 49 = .ok (.ifCond .eq 7, 3) := by decide +kernel
theorem dX7_pin_52 : decode cX7_pin 52 = .ok (.iconst 1, 1) := by decide +kernel
theorem dX7_pin_53 : decode cX7_pin 53 = .ok (.goto 4, 3) := by decide +kernel
theorem dX7_pin_56 : decode cX7_pin 56 = .ok (.iconst 0, 1) := by decide +kernel
theorem dX7_pin_57 : decode cX7_pin 57 = .ok (.iastore, 1) := by decide +kernel
theorem dX7_pin_58 : decode cX7_pin 58 = .ok (.aload_n 0, 1) := by decide +kernel
theorem dX7_pin_59 : decode cX7_pin 59 = .ok (.iconst 1, 1) := by decide +kernel
theorem dX7_pin_60 : decode cX7_pin 60 = .ok (.invokevirtual 83, 3) := by decide +kernel
theorem dX7_pin_63 : decode cX7_pin 63 = .ok (.ireturn, 1) := by decide +kernel
theorem dX7_setsSlot_0 : decode cX7_setsSlot 0 = .ok (.aload_n 0, 1) := by decide +kernel
theorem dX7_setsSlot_1 : decode cX7_setsSlot 1 = .ok (.getfield 7, 3) := by decide +kernel
theorem dX7_setsSlot_4 : decode cX7_setsSlot 4 = .ok (.iload_n 1, 1) := by decide +kernel
theorem dX7_setsSlot_5 : decode cX7_setsSlot 5 = .ok (.iaload, 1) := by decide +kernel
theorem dX7_setsSlot_6 : decode cX7_setsSlot 6 = .ok (.istore_n 3, 1) := by decide +kernel
theorem dX7_setsSlot_7 : decode cX7_setsSlot 7 = .ok (.aload_n 0, 1) := by decide +kernel
theorem dX7_setsSlot_8 : decode cX7_setsSlot 8 = .ok (.getfield 7, 3) := by decide +kernel
theorem dX7_setsSlot_11 : decode cX7_setsSlot 11 = .ok (.iload_n 1, 1) := by decide +kernel
theorem dX7_setsSlot_12 : decode cX7_setsSlot 12 = .ok (.iload_n 2, 1) := by decide +kernel
theorem dX7_setsSlot_13 : decode cX7_setsSlot 13 = .ok (.iastore, 1) := by decide +kernel
theorem dX7_setsSlot_14 : decode cX7_setsSlot 14 = .ok (.iload_n 3, 1) := by decide +kernel
theorem dX7_setsSlot_15 : decode cX7_setsSlot 15 = .ok (.ireturn, 1) := by decide +kernel
theorem dX7_setRoot_0 : decode cX7_setRoot 0 = .ok (.iload_n 1, 1) := by decide +kernel
theorem dX7_setRoot_1 : decode cX7_setRoot 1 = .ok (.iconst 0, 1) := by decide +kernel
theorem dX7_setRoot_2 : decode cX7_setRoot 2 = .ok (.iconst 5, 1) := by decide +kernel
theorem dX7_setRoot_3 : decode cX7_setRoot 3 = .ok (.invokestatic 46, 3) := by decide +kernel
theorem dX7_setRoot_6 : decode cX7_setRoot 6 = .ok (.ifCond .eq 24, 3) := by decide +kernel
theorem dX7_setRoot_9 : decode cX7_setRoot 9 = .ok (.aload_n 0, 1) := by decide +kernel
theorem dX7_setRoot_10 : decode cX7_setRoot 10 = .ok (.iload_n 2, 1) := by decide +kernel
theorem dX7_setRoot_11 : decode cX7_setRoot 11 = .ok (.invokevirtual 76, 3) := by decide +kernel
theorem dX7_setRoot_14 : decode cX7_setRoot 14 = .ok (.ifCond .eq 16, 3) := by decide +kernel
theorem dX7_setRoot_17 : decode cX7_setRoot 17 = .ok (.aload_n 0, 1) := by decide +kernel
theorem dX7_setRoot_18 : decode cX7_setRoot 18 = .ok (.sipush 1200, 3) := by decide +kernel
theorem dX7_setRoot_21 : decode cX7_setRoot 21 = .ok (.iload_n 1, 1) := by decide +kernel
theorem dX7_setRoot_22 : decode cX7_setRoot 22 = .ok (.iadd, 1) := by decide +kernel
theorem dX7_setRoot_23 : decode cX7_setRoot 23 = .ok (.iload_n 2, 1) := by decide +kernel
theorem dX7_setRoot_24 : decode cX7_setRoot 24 = .ok (.invokevirtual 87, 3) := by decide +kernel
theorem dX7_setRoot_27 : decode cX7_setRoot 27 = .ok (.goto 5, 3) := by decide +kernel
theorem dX7_setRoot_30 : decode cX7_setRoot 30 = .ok (.ldc 50, 2) := by decide +kernel
theorem dX7_setRoot_32 : decode cX7_setRoot 32 = .ok (.ireturn, 1) := by decide +kernel
theorem dX7_root_0 : decode cX7_root 0 = .ok (.iload_n 1, 1) := by decide +kernel
theorem dX7_root_1 : decode cX7_root 1 = .ok (.iconst 0, 1) := by decide +kernel
theorem dX7_root_2 : decode cX7_root 2 = .ok (.iconst 5, 1) := by decide +kernel
theorem dX7_root_3 : decode cX7_root 3 = .ok (.invokestatic 46, 3) := by decide +kernel
theorem dX7_root_6 : decode cX7_root 6 = .ok (.ifCond .eq 16, 3) := by decide +kernel
theorem dX7_root_9 : decode cX7_root 9 = .ok (.aload_n 0, 1) := by decide +kernel
theorem dX7_root_10 : decode cX7_root 10 = .ok (.getfield 7, 3) := by decide +kernel
theorem dX7_root_13 : decode cX7_root 13 = .ok (.sipush 1200, 3) := by decide +kernel
theorem dX7_root_16 : decode cX7_root 16 = .ok (.iload_n 1, 1) := by decide +kernel
theorem dX7_root_17 : decode cX7_root 17 = .ok (.iadd, 1) := by decide +kernel
theorem dX7_root_18 : decode cX7_root 18 = .ok (.iaload, 1) := by decide +kernel
theorem dX7_root_19 : decode cX7_root 19 = .ok (.goto 5, 3) := by decide +kernel
theorem dX7_root_22 : decode cX7_root 22 = .ok (.ldc 50, 2) := by decide +kernel
theorem dX7_root_24 : decode cX7_root 24 = .ok (.ireturn, 1) := by decide +kernel
theorem dX7_setWeak_0 : decode cX7_setWeak 0 = .ok (.iload_n 1, 1) := by decide +kernel
theorem dX7_setWeak_1 : decode cX7_setWeak 1 = .ok (.iconst 0, 1) := by decide +kernel
theorem dX7_setWeak_2 : decode cX7_setWeak 2 = .ok (.iconst 3, 1) := by decide +kernel
theorem dX7_setWeak_3 : decode cX7_setWeak 3 = .ok (.invokestatic 46, 3) := by decide +kernel
theorem dX7_setWeak_6 : decode cX7_setWeak 6 = .ok (.ifCond .eq 24, 3) := by decide +kernel
theorem dX7_setWeak_9 : decode cX7_setWeak 9 = .ok (.aload_n 0, 1) := by decide +kernel
theorem dX7_setWeak_10 : decode cX7_setWeak 10 = .ok (.iload_n 2, 1) := by decide +kernel
theorem dX7_setWeak_11 : decode cX7_setWeak 11 = .ok (.invokevirtual 76, 3) := by decide +kernel
theorem dX7_setWeak_14 : decode cX7_setWeak 14 = .ok (.ifCond .eq 16, 3) := by decide +kernel
theorem dX7_setWeak_17 : decode cX7_setWeak 17 = .ok (.aload_n 0, 1) := by decide +kernel
theorem dX7_setWeak_18 : decode cX7_setWeak 18 = .ok (.sipush 1206, 3) := by decide +kernel
theorem dX7_setWeak_21 : decode cX7_setWeak 21 = .ok (.iload_n 1, 1) := by decide +kernel
theorem dX7_setWeak_22 : decode cX7_setWeak 22 = .ok (.iadd, 1) := by decide +kernel
theorem dX7_setWeak_23 : decode cX7_setWeak 23 = .ok (.iload_n 2, 1) := by decide +kernel
theorem dX7_setWeak_24 : decode cX7_setWeak 24 = .ok (.invokevirtual 87, 3) := by decide +kernel
theorem dX7_setWeak_27 : decode cX7_setWeak 27 = .ok (.goto 5, 3) := by decide +kernel
theorem dX7_setWeak_30 : decode cX7_setWeak 30 = .ok (.ldc 50, 2) := by decide +kernel
theorem dX7_setWeak_32 : decode cX7_setWeak 32 = .ok (.ireturn, 1) := by decide +kernel
theorem dX7_weak_0 : decode cX7_weak 0 = .ok (.iload_n 1, 1) := by decide +kernel
theorem dX7_weak_1 : decode cX7_weak 1 = .ok (.iconst 0, 1) := by decide +kernel
theorem dX7_weak_2 : decode cX7_weak 2 = .ok (.iconst 3, 1) := by decide +kernel
theorem dX7_weak_3 : decode cX7_weak 3 = .ok (.invokestatic 46, 3) := by decide +kernel
theorem dX7_weak_6 : decode cX7_weak 6 = .ok (.ifCond .eq 16, 3) := by decide +kernel
theorem dX7_weak_9 : decode cX7_weak 9 = .ok (.aload_n 0, 1) := by decide +kernel
theorem dX7_weak_10 : decode cX7_weak 10 = .ok (.getfield 7, 3) := by decide +kernel
theorem dX7_weak_13 : decode cX7_weak 13 = .ok (.sipush 1206, 3) := by decide +kernel
theorem dX7_weak_16 : decode cX7_weak 16 = .ok (.iload_n 1, 1) := by decide +kernel
theorem dX7_weak_17 : decode cX7_weak 17 = .ok (.iadd, 1) := by decide +kernel
theorem dX7_weak_18 : decode cX7_weak 18 = .ok (.iaload, 1) := by decide +kernel
theorem dX7_weak_19 : decode cX7_weak 19 = .ok (.goto 5, 3) := by decide +kernel
theorem dX7_weak_22 : decode cX7_weak 22 = .ok (.ldc 50, 2) := by decide +kernel
theorem dX7_weak_24 : decode cX7_weak 24 = .ok (.ireturn, 1) := by decide +kernel
theorem dX7_reach_0 : decode cX7_reach 0 = .ok (.iload_n 1, 1) := by decide +kernel
theorem dX7_reach_1 : decode cX7_reach 1 = .ok (.iconst (-1), 1) := by decide +kernel
theorem dX7_reach_2 : decode cX7_reach 2 = .ok (.if_icmp .ne 7, 3) := by decide +kernel
theorem dX7_reach_5 : decode cX7_reach 5 = .ok (.iconst (-1), 1) := by decide +kernel
theorem dX7_reach_6 : decode cX7_reach 6 = .ok (.goto 8, 3) := by decide +kernel
theorem dX7_reach_9 : decode cX7_reach 9 = .ok (.aload_n 0, 1) := by decide +kernel
theorem dX7_reach_10 : decode cX7_reach 10 = .ok (.iload_n 1, 1) := by decide +kernel
theorem dX7_reach_11 : decode cX7_reach 11 = .ok (.invokevirtual 51, 3) := by decide +kernel
theorem dX7_reach_14 : decode cX7_reach 14 = .ok (.istore_n 2, 1) := by decide +kernel
theorem dX7_reach_15 : decode cX7_reach 15 = .ok (.iload_n 2, 1) := by decide +kernel
theorem dX7_reach_16 : decode cX7_reach 16 = .ok (.iconst (-1), 1) := by decide +kernel
theorem dX7_reach_17 : decode cX7_reach 17 = .ok (.if_icmp .eq 12, 3) := by decide +kernel
theorem dX7_reach_20 : decode cX7_reach 20 = .ok (.aload_n 0, 1) := by decide +kernel
theorem dX7_reach_21 : decode cX7_reach 21 = .ok (.getfield 33, 3) := by decide +kernel
theorem dX7_reach_24 : decode cX7_reach 24 = .ok (.iload_n 2, 1) := by decide +kernel
theorem dX7_reach_25 : decode cX7_reach 25 = .ok (.baload, 1) := by decide +kernel
theorem dX7_reach_26 : decode cX7_reach 26 = .ok (.ifCond .eq 4, 3) := by decide +kernel
theorem dX7_reach_29 : decode cX7_reach 29 = .ok (.return_, 1) := by decide +kernel
theorem dX7_reach_30 : decode cX7_reach 30 = .ok (.aload_n 0, 1) := by decide +kernel
theorem dX7_reach_31 : decode cX7_reach 31 = .ok (.getfield 33, 3) := by decide +kernel
theorem dX7_reach_34 : decode cX7_reach 34 = .ok (.iload_n 2, 1) := by decide +kernel
theorem dX7_reach_35 : decode cX7_reach 35 = .ok (.iconst 1, 1) := by decide +kernel
theorem dX7_reach_36 : decode cX7_reach 36 = .ok (.bastore, 1) := by decide +kernel
theorem dX7_reach_37 : decode cX7_reach 37 = .ok (.aload_n 0, 1) := by decide +kernel
theorem dX7_reach_38 : decode cX7_reach 38 = .ok (.getfield 91, 3) := by decide +kernel
theorem dX7_reach_41 : decode cX7_reach 41 = .ok (.aload_n 0, 1) := by decide +kernel
theorem dX7_reach_42 : decode cX7_reach 42 = .ok (.getfield 7, 3) := by decide +kernel
theorem dX7_reach_45 : decode cX7_reach 45 = .ok (.sipush 1217, 3) := by decide +kernel
theorem dX7_reach_48 : decode cX7_reach 48 = .ok (.iaload, 1) := by decide +kernel
theorem dX7_reach_49 : decode cX7_reach 49 = .ok (.if_icmp .ne 9, 3) := by decide +kernel
theorem dX7_reach_52 : decode cX7_reach 52 = .ok (.aload_n 0, 1) := by decide +kernel
theorem dX7_reach_53 : decode cX7_reach 53 = .ok (.iconst 1, 1) := by decide +kernel
theorem dX7_reach_54 : decode cX7_reach 54 = .ok (.putfield 94, 3) := by decide +kernel
theorem dX7_reach_57 : decode cX7_reach 57 = .ok (.return_, 1) := by decide +kernel
theorem dX7_reach_58 : decode cX7_reach 58 = .ok (.aload_n 0, 1) := by decide +kernel
theorem dX7_reach_59 : decode cX7_reach 59 = .ok (.getfield 36, 3) := by decide +kernel
theorem dX7_reach_62 : decode cX7_reach 62 = .ok (.aload_n 0, 1) := by decide +kernel
theorem dX7_reach_63 : decode cX7_reach 63 = .ok (.getfield 91, 3) := by decide +kernel
theorem dX7_reach_66 : decode cX7_reach 66 = .ok (.iload_n 2, 1) := by decide +kernel
theorem dX7_reach_67 : decode cX7_reach 67 = .ok (.iastore, 1) := by decide +kernel
theorem dX7_reach_68 : decode cX7_reach 68 = .ok (.aload_n 0, 1) := by decide +kernel
theorem dX7_reach_69 : decode cX7_reach 69 = .ok (.dup, 1) := by decide +kernel
theorem dX7_reach_70 : decode cX7_reach 70 = .ok (.getfield 91, 3) := by decide +kernel
theorem dX7_reach_73 : decode cX7_reach 73 = .ok (.iconst 1, 1) := by decide +kernel
theorem dX7_reach_74 : decode cX7_reach 74 = .ok (.iadd, 1) := by decide +kernel
theorem dX7_reach_75 : decode cX7_reach 75 = .ok (.putfield 91, 3) := by decide +kernel
theorem dX7_reach_78 : decode cX7_reach 78 = .ok (.aload_n 0, 1) := by decide +kernel
theorem dX7_reach_79 : decode cX7_reach 79 = .ok (.aload_n 0, 1) := by decide +kernel
theorem dX7_reach_80 : decode cX7_reach 80 = .ok (.getfield 91, 3) := by decide +kernel
theorem dX7_reach_83 : decode cX7_reach 83 = .ok (.aload_n 0, 1) := by decide +kernel
theorem dX7_reach_84 : decode cX7_reach 84 = .ok (.getfield 98, 3) := by decide +kernel
theorem dX7_reach_87 : decode cX7_reach 87 = .ok (.if_icmp .le 10, 3) := by decide +kernel
theorem dX7_reach_90 : decode cX7_reach 90 = .ok (.aload_n 0, 1) := by decide +kernel
theorem dX7_reach_91 : decode cX7_reach 91 = .ok (.getfield 91, 3) := by decide +kernel
theorem dX7_reach_94 : decode cX7_reach 94 = .ok (.goto 7, 3) := by decide +kernel
theorem dX7_reach_97 : decode cX7_reach 97 = .ok (.aload_n 0, 1) := by decide +kernel
theorem dX7_reach_98 : decode cX7_reach 98 = .ok (.getfield 98, 3) := by decide +kernel
theorem dX7_reach_101 : decode cX7_reach 101 = .ok (.putfield 98, 3) := by decide +kernel
theorem dX7_reach_104 : decode cX7_reach 104 = .ok (.return_, 1) := by decide +kernel
theorem dX7_drains_0 : decode cX7_drains 0 = .ok (.aload_n 0, 1) := by decide +kernel
theorem dX7_drains_1 : decode cX7_drains 1 = .ok (.getfield 91, 3) := by decide +kernel
theorem dX7_drains_4 : decode cX7_drains 4 = .ok (.ifCond .le 64, 3) := by decide +kernel
theorem dX7_drains_7 : decode cX7_drains 7 = .ok (.aload_n 0, 1) := by decide +kernel
theorem dX7_drains_8 : decode cX7_drains 8 = .ok (.dup, 1) := by decide +kernel
theorem dX7_drains_9 : decode cX7_drains 9 = .ok (.getfield 91, 3) := by decide +kernel
theorem dX7_drains_12 : decode cX7_drains 12 = .ok (.iconst 1, 1) := by decide +kernel
theorem dX7_drains_13 : decode cX7_drains 13 = .ok (.isub, 1) := by decide +kernel
theorem dX7_drains_14 : decode cX7_drains 14 = .ok (.putfield 91, 3) := by decide +kernel
theorem dX7_drains_17 : decode cX7_drains 17 = .ok (.aload_n 0, 1) := by decide +kernel
theorem dX7_drains_18 : decode cX7_drains 18 = .ok (.getfield 36, 3) := by decide +kernel
theorem dX7_drains_21 : decode cX7_drains 21 = .ok (.aload_n 0, 1) := by decide +kernel
theorem dX7_drains_22 : decode cX7_drains 22 = .ok (.getfield 91, 3) := by decide +kernel
theorem dX7_drains_25 : decode cX7_drains 25 = .ok (.iaload, 1) := by decide +kernel
theorem dX7_drains_26 : decode cX7_drains 26 = .ok (.istore_n 1, 1) := by decide +kernel
theorem dX7_drains_27 : decode cX7_drains 27 = .ok (.iconst 1, 1) := by decide +kernel
theorem dX7_drains_28 : decode cX7_drains 28 = .ok (.istore_n 2, 1) := by decide +kernel
theorem dX7_drains_29 : decode cX7_drains 29 = .ok (.iload_n 2, 1) := by decide +kernel
theorem dX7_drains_30 : decode cX7_drains 30 = .ok (.aload_n 0, 1) := by decide +kernel
theorem dX7_drains_31 : decode cX7_drains 31 = .ok (.getfield 7, 3) := by decide +kernel
theorem dX7_drains_34 : decode cX7_drains 34 = .ok (.sipush 200, 3) := by decide +kernel
theorem dX7_drains_37 : decode cX7_drains 37 = .ok (.iload_n 1, 1) := by decide +kernel
theorem dX7_drains_38 : decode cX7_drains 38 = .ok (.iadd, 1) := by decide +kernel
theorem dX7_drains_39 : decode cX7_drains 39 = .ok (.iaload, 1) := by decide +kernel
theorem dX7_drains_40 : decode cX7_drains 40 = .ok (.if_icmp .gt 25, 3) := by decide +kernel
theorem dX7_drains_43 : decode cX7_drains 43 = .ok (.aload_n 0, 1) := by decide +kernel
theorem dX7_drains_44 : decode cX7_drains 44 = .ok (.aload_n 0, 1) := by decide +kernel
theorem dX7_drains_45 : decode cX7_drains 45 = .ok (.getfield 7, 3) := by decide +kernel
theorem dX7_drains_48 : decode cX7_drains 48 = .ok (.sipush 800, 3) := by decide +kernel
theorem dX7_drains_51 : decode cX7_drains 51 = .ok (.iload_n 1, 1) := by decide +kernel
theorem dX7_drains_52 : decode cX7_drains 52 = .ok (.iadd, 1) := by decide +kernel
theorem dX7_drains_53 : decode cX7_drains 53 = .ok (.iload_n 2, 1) := by decide +kernel
theorem dX7_drains_54 : decode cX7_drains 54 = .ok (.iadd, 1) := by decide +kernel
theorem dX7_drains_55 : decode cX7_drains 55 = .ok (.iaload, 1) := by decide +kernel
theorem dX7_drains_56 : decode cX7_drains 56 = .ok (.invokevirtual 101, 3) := by decide +kernel
theorem dX7_drains_59 : decode cX7_drains 59 = .ok (.iinc 2 1, 3) := by decide +kernel
theorem dX7_drains_62 : decode cX7_drains 62 = .ok (.goto (-33), 3) := by decide +kernel
theorem dX7_drains_65 : decode cX7_drains 65 = .ok (.goto (-65), 3) := by decide +kernel
theorem dX7_drains_68 : decode cX7_drains 68 = .ok (.return_, 1) := by decide +kernel
theorem dX7_scans_0 : decode cX7_scans 0 = .ok (.iconst 0, 1) := by decide +kernel
theorem dX7_scans_1 : decode cX7_scans 1 = .ok (.istore_n 1, 1) := by decide +kernel
theorem dX7_scans_2 : decode cX7_scans 2 = .ok (.iload_n 1, 1) := by decide +kernel
theorem dX7_scans_3 : decode cX7_scans 3 = .ok (.aload_n 0, 1) := by decide +kernel
theorem dX7_scans_4 : decode cX7_scans 4 = .ok (.getfield 7, 3) := by decide +kernel
theorem dX7_scans_7 : decode cX7_scans 7 = .ok (.sipush 1216, 3) := by decide +kernel
theorem dX7_scans_10 : decode cX7_scans 10 = .ok (.iaload, 1) := by decide +kernel
theorem dX7_scans_11 : decode cX7_scans 11 = .ok (.if_icmp .ge 71, 3) := by decide +kernel
theorem dX7_scans_14 : decode cX7_scans 14 = .ok (.iconst 1, 1) := by decide +kernel
theorem dX7_scans_15 : decode cX7_scans 15 = .ok (.istore_n 2, 1) := by decide +kernel
theorem dX7_scans_16 : decode cX7_scans 16 = .ok (.iload_n 2, 1) := by decide +kernel
theorem dX7_scans_17 : decode cX7_scans 17 = .ok (.aload_n 0, 1) := by decide +kernel
theorem dX7_scans_18 : decode cX7_scans 18 = .ok (.getfield 7, 3) := by decide +kernel
theorem dX7_scans_21 : decode cX7_scans 21 = .ok (.sipush 200, 3) := by decide +kernel
theorem dX7_scans_24 : decode cX7_scans 24 = .ok (.iload_n 1, 1) := by decide +kernel
theorem dX7_scans_25 : decode cX7_scans 25 = .ok (.iadd, 1) := by decide +kernel
theorem dX7_scans_26 : decode cX7_scans 26 = .ok (.iaload, 1) := by decide +kernel
theorem dX7_scans_27 : decode cX7_scans 27 = .ok (.if_icmp .gt 49, 3) := by decide +kernel
theorem dX7_scans_30 : decode cX7_scans 30 = .ok (.aload_n 0, 1) := by decide +kernel
theorem dX7_scans_31 : decode cX7_scans 31 = .ok (.getfield 7, 3) := by decide +kernel
theorem dX7_scans_34 : decode cX7_scans 34 = .ok (.iconst 0, 1) := by decide +kernel
theorem dX7_scans_35 : decode cX7_scans 35 = .ok (.iload_n 1, 1) := by decide +kernel
theorem dX7_scans_36 : decode cX7_scans 36 = .ok (.iadd, 1) := by decide +kernel
theorem dX7_scans_37 : decode cX7_scans 37 = .ok (.iaload, 1) := by decide +kernel
theorem dX7_scans_38 : decode cX7_scans 38 = .ok (.ifCond .le 38, 3) := by decide +kernel
theorem dX7_scans_41 : decode cX7_scans 41 = .ok (.aload_n 0, 1) := by decide +kernel
theorem dX7_scans_42 : decode cX7_scans 42 = .ok (.getfield 33, 3) := by decide +kernel
theorem dX7_scans_45 : decode cX7_scans 45 = .ok (.iload_n 1, 1) := by decide +kernel
theorem dX7_scans_46 : decode cX7_scans 46 = .ok (.baload, 1) := by decide +kernel
theorem dX7_scans_47 : decode cX7_scans 47 = .ok (.ifCond .eq 29, 3) := by decide +kernel
theorem dX7_scans_50 : decode cX7_scans 50 = .ok (.aload_n 0, 1) := by decide +kernel
theorem dX7_scans_51 : decode cX7_scans 51 = .ok (.aload_n 0, 1) := by decide +kernel
theorem dX7_scans_52 : decode cX7_scans 52 = .ok (.getfield 7, 3) := by decide +kernel
theorem dX7_scans_55 : decode cX7_scans 55 = .ok (.sipush 800, 3) := by decide +kernel
theorem dX7_scans_58 : decode cX7_scans 58 = .ok (.iload_n 1, 1) := by decide +kernel
theorem dX7_scans_59 : decode cX7_scans 59 = .ok (.iadd, 1) := by decide +kernel
theorem dX7_scans_60 : decode cX7_scans 60 = .ok (.iload_n 2, 1) := by decide +kernel
theorem dX7_scans_61 : decode cX7_scans 61 = .ok (.iadd, 1) := by decide +kernel
theorem dX7_scans_62 : decode cX7_scans 62 = .ok (.iaload, 1) := by decide +kernel
theorem dX7_scans_63 : decode cX7_scans 63 = .ok (.invokevirtual 101, 3) := by decide +kernel
theorem dX7_scans_66 : decode cX7_scans 66 = .ok (.aload_n 0, 1) := by decide +kernel
theorem dX7_scans_67 : decode cX7_scans 67 = .ok (.invokevirtual 104, 3) := by decide +kernel
theorem dX7_scans_70 : decode cX7_scans 70 = .ok (.iinc 2 1, 3) := by decide +kernel
theorem dX7_scans_73 : decode cX7_scans 73 = .ok (.goto (-57), 3) := by decide +kernel
theorem dX7_scans_76 : decode cX7_scans 76 = .ok (.iinc 1 1, 3) := by decide +kernel
theorem dX7_scans_79 : decode cX7_scans 79 = .ok (.goto (-77), 3) := by decide +kernel
theorem dX7_scans_82 : decode cX7_scans 82 = .ok (.return_, 1) := by decide +kernel
theorem dX7_marks_0 : decode cX7_marks 0 = .ok (.iconst 0, 1) := by decide +kernel
theorem dX7_marks_1 : decode cX7_marks 1 = .ok (.istore_n 1, 1) := by decide +kernel
theorem dX7_marks_2 : decode cX7_marks 2 = .ok (.iload_n 1, 1) := by decide +kernel
theorem dX7_marks_3 : decode cX7_marks 3 = .ok (.sipush 200, 3) := by decide +kernel
theorem dX7_marks_6 : decode cX7_marks 6 = .ok (.if_icmp .ge 16, 3) := by decide +kernel
theorem dX7_marks_9 : decode cX7_marks 9 = .ok (.aload_n 0, 1) := by decide +kernel
theorem dX7_marks_10 : decode cX7_marks 10 = .ok (.getfield 33, 3) := by decide +kernel
theorem dX7_marks_13 : decode cX7_marks 13 = .ok (.iload_n 1, 1) := by decide +kernel
theorem dX7_marks_14 : decode cX7_marks 14 = .ok (.iconst 0, 1) := by decide +kernel
theorem dX7_marks_15 : decode cX7_marks 15 = .ok (.bastore, 1) := by decide +kernel
theorem dX7_marks_16 : decode cX7_marks 16 = .ok (.iinc 1 1, 3) := by decide +kernel
theorem dX7_marks_19 : decode cX7_marks 19 = .ok (.goto (-17), 3) := by decide +kernel
theorem dX7_marks_22 : decode cX7_marks 22 = .ok (.aload_n 0, 1) := by decide +kernel
theorem dX7_marks_23 : decode cX7_marks 23 = .ok (.iconst 0, 1) := by decide +kernel
theorem dX7_marks_24 : decode cX7_marks 24 = .ok (.putfield 91, 3) := by decide +kernel
theorem dX7_marks_27 : decode cX7_marks 27 = .ok (.aload_n 0, 1) := by decide +kernel
theorem dX7_marks_28 : decode cX7_marks 28 = .ok (.iconst 0, 1) := by decide +kernel
theorem dX7_marks_29 : decode cX7_marks 29 = .ok (.putfield 98, 3) := by decide +kernel
theorem dX7_marks_32 : decode cX7_marks 32 = .ok (.aload_n 0, 1) := by decide +kernel
theorem dX7_marks_33 : decode cX7_marks 33 = .ok (.iconst 0, 1) := by decide +kernel
theorem dX7_marks_34 : decode cX7_marks 34 = .ok (.putfield 94, 3) := by decide +kernel
theorem dX7_marks_37 : decode cX7_marks 37 = .ok (.iconst 0, 1) := by decide +kernel
theorem dX7_marks_38 : decode cX7_marks 38 = .ok (.istore_n 1, 1) := by decide +kernel
theorem dX7_marks_39 : decode cX7_marks 39 = .ok (.iload_n 1, 1) := by decide +kernel
theorem dX7_marks_40 : decode cX7_marks 40 = .ok (.bipush 6, 2) := by decide +kernel
theorem dX7_marks_42 : decode cX7_marks 42 = .ok (.if_icmp .ge 27, 3) := by decide +kernel
theorem dX7_marks_45 : decode cX7_marks 45 = .ok (.aload_n 0, 1) := by decide +kernel
theorem dX7_marks_46 : decode cX7_marks 46 = .ok (.aload_n 0, 1) := by decide +kernel
theorem dX7_marks_47 : decode cX7_marks 47 = .ok (.getfield 7, 3) := by decide +kernel
theorem dX7_marks_50 : decode cX7_marks 50 = .ok (.sipush 1200, 3) := by decide +kernel
theorem dX7_marks_53 : decode cX7_marks 53 = .ok (.iload_n 1, 1) := by decide +kernel
theorem dX7_marks_54 : decode cX7_marks 54 = .ok (.iadd, 1) := by decide +kernel
theorem dX7_marks_55 : decode cX7_marks 55 = .ok (.iaload, 1) := by decide +kernel
theorem dX7_marks_56 : decode cX7_marks 56 = .ok (.invokevirtual 101, 3) := by decide +kernel
theorem dX7_marks_59 : decode cX7_marks 59 = .ok (.aload_n 0, 1) := by decide +kernel
theorem dX7_marks_60 : decode cX7_marks 60 = .ok (.invokevirtual 104, 3) := by decide +kernel
theorem dX7_marks_63 : decode cX7_marks 63 = .ok (.iinc 1 1, 3) := by decide +kernel
theorem dX7_marks_66 : decode cX7_marks 66 = .ok (.goto (-27), 3) := by decide +kernel
theorem dX7_marks_69 : decode cX7_marks 69 = .ok (.iconst 0, 1) := by decide +kernel
theorem dX7_marks_70 : decode cX7_marks 70 = .ok (.istore_n 1, 1) := by decide +kernel
theorem dX7_marks_71 : decode cX7_marks 71 = .ok (.iload_n 1, 1) := by decide +kernel
theorem dX7_marks_72 : decode cX7_marks 72 = .ok (.aload_n 0, 1) := by decide +kernel
theorem dX7_marks_73 : decode cX7_marks 73 = .ok (.getfield 7, 3) := by decide +kernel
theorem dX7_marks_76 : decode cX7_marks 76 = .ok (.sipush 1216, 3) := by decide +kernel
theorem dX7_marks_79 : decode cX7_marks 79 = .ok (.iaload, 1) := by decide +kernel
theorem dX7_marks_80 : decode cX7_marks 80 = .ok (.if_icmp .ge 47, 3) := by decide +kernel
theorem dX7_marks_83 : decode cX7_marks 83 = .ok (.aload_n 0, 1) := by decide +kernel
theorem dX7_marks_84 : decode cX7_marks 84 = .ok (.aload_n 0, 1) := by decide +kernel
theorem dX7_marks_85 : decode cX7_marks 85 = .ok (.getfield 7, 3) := by decide +kernel
theorem dX7_marks_88 : decode cX7_marks 88 = .ok (.iconst 0, 1) := by decide +kernel
theorem dX7_marks_89 : decode cX7_marks 89 = .ok (.iload_n 1, 1) := by decide +kernel
theorem dX7_marks_90 : decode cX7_marks 90 = .ok (.iadd, 1) := by decide +kernel
theorem dX7_marks_91 : decode cX7_marks 91 = .ok (.iaload, 1) := by decide +kernel
theorem dX7_marks_92 : decode cX7_marks 92 = .ok (.ifCond .le 21, 3) := by decide +kernel
theorem dX7_marks_95 : decode cX7_marks 95 = .ok (.aload_n 0, 1) := by decide +kernel
theorem dX7_marks_96 : decode cX7_marks 96 = .ok (.getfield 7, 3) := by decide +kernel
theorem dX7_marks_99 : decode cX7_marks 99 = .ok (.sipush 400, 3) := by decide +kernel
theorem dX7_marks_102 : decode cX7_marks 102 = .ok (.iload_n 1, 1) := by decide +kernel
theorem dX7_marks_103 : decode cX7_marks 103 = .ok (.iadd, 1) := by decide +kernel
theorem dX7_marks_104 : decode cX7_marks 104 = .ok (.iaload, 1) := by decide +kernel
theorem dX7_marks_105 : decode cX7_marks 105 = .ok (.iconst 1, 1) := by decide +kernel
theorem dX7_marks_106 : decode cX7_marks 106 = .ok (.if_icmp .ne 7, 3) := by decide +kernel
theorem dX7_marks_109 : decode cX7_marks 109 = .ok (.iload_n 1, 1) := by decide +kernel
theorem dX7_marks_110 : decode cX7_marks 110 = .ok (.goto 4, 3) := by decide +kernel
theorem dX7_marks_113 : decode cX7_marks 113 = .ok (.iconst (-1), 1) := by decide +kernel
theorem dX7_marks_114 : decode cX7_marks 114 = .ok (.invokevirtual 101, 3) := by decide +kernel
theorem dX7_marks_117 : decode cX7_marks 117 = .ok (.aload_n 0, 1) := by decide +kernel
theorem dX7_marks_118 : decode cX7_marks 118 = .ok (.invokevirtual 104, 3) := by decide +kernel
theorem dX7_marks_121 : decode cX7_marks 121 = .ok (.iinc 1 1, 3) := by decide +kernel
theorem dX7_marks_124 : decode cX7_marks 124 = .ok (.goto (-53), 3) := by decide +kernel
theorem dX7_marks_127 : decode cX7_marks 127 = .ok (.iconst 0, 1) := by decide +kernel
theorem dX7_marks_128 : decode cX7_marks 128 = .ok (.istore_n 1, 1) := by decide +kernel
theorem dX7_marks_129 : decode cX7_marks 129 = .ok (.aload_n 0, 1) := by decide +kernel
theorem dX7_marks_130 : decode cX7_marks 130 = .ok (.getfield 94, 3) := by decide +kernel
theorem dX7_marks_133 : decode cX7_marks 133 = .ok (.ifCond .eq 18, 3) := by decide +kernel
theorem dX7_marks_136 : decode cX7_marks 136 = .ok (.aload_n 0, 1) := by decide +kernel
theorem dX7_marks_137 : decode cX7_marks 137 = .ok (.iconst 0, 1) := by decide +kernel
theorem dX7_marks_138 : decode cX7_marks 138 = .ok (.putfield 94, 3) := by decide +kernel
theorem dX7_marks_141 : decode cX7_marks 141 = .ok (.iinc 1 1, 3) := by decide +kernel
theorem dX7_marks_144 : decode cX7_marks 144 = .ok (.aload_n 0, 1) := by decide +kernel
theorem dX7_marks_145 : decode cX7_marks 145 = .ok (.invokevirtual 107, 3) := by decide +kernel
theorem dX7_marks_148 : decode cX7_marks 148 = .ok (.goto (-19), 3) := by decide +kernel
theorem dX7_marks_151 : decode cX7_marks 151 = .ok (.iload_n 1, 1) := by decide +kernel
theorem dX7_marks_152 : decode cX7_marks 152 = .ok (.ireturn, 1) := by decide +kernel
theorem dX7_gone_0 : decode cX7_gone 0 = .ok (.iload_n 1, 1) := by decide +kernel
theorem dX7_gone_1 : decode cX7_gone 1 = .ok (.iconst (-1), 1) := by decide +kernel
theorem dX7_gone_2 : decode cX7_gone 2 = .ok (.if_icmp .ne 7, 3) := by decide +kernel
theorem dX7_gone_5 : decode cX7_gone 5 = .ok (.iconst (-1), 1) := by decide +kernel
theorem dX7_gone_6 : decode cX7_gone 6 = .ok (.goto 13, 3) := by decide +kernel
theorem dX7_gone_9 : decode cX7_gone 9 = .ok (.aload_n 0, 1) := by decide +kernel
theorem dX7_gone_10 : decode cX7_gone 10 = .ok (.getfield 7, 3) := by decide +kernel
theorem dX7_gone_13 : decode cX7_gone 13 = .ok (.sipush 1000, 3) := by decide +kernel
theorem dX7_gone_16 : decode cX7_gone 16 = .ok (.iload_n 1, 1) := by decide +kernel
theorem dX7_gone_17 : decode cX7_gone 17 = .ok (.iadd, 1) := by decide +kernel
theorem dX7_gone_18 : decode cX7_gone 18 = .ok (.iaload, 1) := by decide +kernel
theorem dX7_gone_19 : decode cX7_gone 19 = .ok (.ireturn, 1) := by decide +kernel
theorem dX7_occupied_0 : decode cX7_occupied 0 = .ok (.iconst 0, 1) := by decide +kernel
theorem dX7_occupied_1 : decode cX7_occupied 1 = .ok (.istore_n 1, 1) := by decide +kernel
theorem dX7_occupied_2 : decode cX7_occupied 2 = .ok (.iconst 0, 1) := by decide +kernel
theorem dX7_occupied_3 : decode cX7_occupied 3 = .ok (.istore_n 2, 1) := by decide +kernel
theorem dX7_occupied_4 : decode cX7_occupied 4 = .ok (.iload_n 2, 1) := by decide +kernel
theorem dX7_occupied_5 : decode cX7_occupied 5 = .ok (.aload_n 0, 1) := by decide +kernel
theorem dX7_occupied_6 : decode cX7_occupied 6 = .ok (.getfield 7, 3) := by decide +kernel
theorem dX7_occupied_9 : decode cX7_occupied 9 = .ok (.sipush 1216, 3) := by decide +kernel
theorem dX7_occupied_12 : decode cX7_occupied 12 = .ok (.iaload, 1) := by decide +kernel
theorem dX7_occupied_13 : decode cX7_occupied 13 = .ok (.if_icmp .ge 20, 3) := by decide +kernel
theorem dX7_occupied_16 : decode cX7_occupied 16 = .ok (.iload_n 1, 1) := by decide +kernel
theorem dX7_occupied_17 : decode cX7_occupied 17 = .ok (.aload_n 0, 1) := by decide +kernel
theorem dX7_occupied_18 : decode cX7_occupied 18 = .ok (.getfield 7, 3) := by decide +kernel
theorem dX7_occupied_21 : decode cX7_occupied 21 = .ok (.iconst 0, 1) := by decide +kernel
theorem dX7_occupied_22 : decode cX7_occupied 22 = .ok (.iload_n 2, 1) := by decide +kernel
theorem dX7_occupied_23 : decode cX7_occupied 23 = .ok (.iadd, 1) := by decide +kernel
theorem dX7_occupied_24 : decode cX7_occupied 24 = .ok (.iaload, 1) := by decide +kernel
theorem dX7_occupied_25 : decode cX7_occupied 25 = .ok (.iadd, 1) := by decide +kernel
theorem dX7_occupied_26 : decode cX7_occupied 26 = .ok (.istore_n 1, 1) := by decide +kernel
theorem dX7_occupied_27 : decode cX7_occupied 27 = .ok (.iinc 2 1, 3) := by decide +kernel
theorem dX7_occupied_30 : decode cX7_occupied 30 = .ok (.goto (-26), 3) := by decide +kernel
theorem dX7_occupied_33 : decode cX7_occupied 33 = .ok (.iload_n 1, 1) := by decide +kernel
theorem dX7_occupied_34 : decode cX7_occupied 34 = .ok (.ireturn, 1) := by decide +kernel
theorem dX7_collect_0 : decode cX7_collect 0 = .ok (.aload_n 0, 1) := by decide +kernel
theorem dX7_collect_1 : decode cX7_collect 1 = .ok (.invokevirtual 110, 3) := by decide +kernel
theorem dX7_collect_4 : decode cX7_collect 4 = .ok (.istore_n 1, 1) := by decide +kernel
theorem dX7_collect_5 : decode cX7_collect 5 = .ok (.aload_n 0, 1) := by decide +kernel
theorem dX7_collect_6 : decode cX7_collect 6 = .ok (.invokevirtual 114, 3) := by decide +kernel
