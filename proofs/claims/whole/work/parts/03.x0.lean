set_option maxRecDepth 20000 in
theorem ggX0_init_J7_fill_53178 : GoodIn wsX0_init wsJ7_fill_53178 := goodIn_r _ [14] (by decide +kernel) (by decide +kernel)
set_option maxRecDepth 20000 in
theorem gX0_init_J7_fill_53178 : GoodIn wsX0_init (va_wsS RX0 24 yJ7_fill_53178 wsJ7_fill_53178) := goodIn_app (goodIn_of _ (by decide +kernel)) ggX0_init_J7_fill_53178
theorem dX0_init_0 : decode cX0_init 0 = .ok (.aload_n 0, 1) := by decide +kernel
theorem dX0_init_1 : decode cX0_init 1 = .ok (.invokespecial 1, 3) := by decide +kernel
theorem dX0_init_4 : decode cX0_init 4 = .ok (.aload_n 0, 1) := by decide +kernel
theorem dX0_init_5 : decode cX0_init 5 = .ok (.bipush 96, 2) := by decide +kernel
theorem dX0_init_7 : decode cX0_init 7 = .ok (.newarray .int, 2) := by decide +kernel
theorem dX0_init_9 : decode cX0_init 9 = .ok (.putfield 9, 3) := by decide +kernel
theorem dX0_init_12 : decode cX0_init 12 = .ok (.aload_n 0, 1) := by decide +kernel
theorem dX0_init_13 : decode cX0_init 13 = .ok (.bipush 8, 2) := by decide +kernel
theorem dX0_init_15 : decode cX0_init 15 = .ok (.newarray .int, 2) := by decide +kernel
theorem dX0_init_17 : decode cX0_init 17 = .ok (.putfield 13, 3) := by decide +kernel
theorem dX0_init_20 : decode cX0_init 20 = .ok (.aload_n 0, 1) := by decide +kernel
theorem dX0_init_21 : decode cX0_init 21 = .ok (.iconst 4, 1) := by decide +kernel
theorem dX0_init_22 : decode cX0_init 22 = .ok (.newarray .boolean, 2) := by decide +kernel
theorem dX0_init_24 : decode cX0_init 24 = .ok (.putfield 16, 3) := by decide +kernel
theorem dX0_init_27 : decode cX0_init 27 = .ok (.aload_n 0, 1) := by decide +kernel
theorem dX0_init_28 : decode cX0_init 28 = .ok (.bipush 8, 2) := by decide +kernel
theorem dX0_init_30 : decode cX0_init 30 = .ok (.newarray .int, 2) := by decide +kernel
theorem dX0_init_32 : decode cX0_init 32 = .ok (.putfield 20, 3) := by decide +kernel
theorem dX0_init_35 : decode cX0_init 35 = .ok (.aload_n 0, 1) := by decide +kernel
theorem dX0_init_36 : decode cX0_init 36 = .ok (.getfield 9, 3) := by decide +kernel
theorem dX0_init_39 : decode cX0_init 39 = .ok (.ldc 23, 2) := by decide +kernel
theorem dX0_init_41 : decode cX0_init 41 = .ok (.invokestatic 24, 3) := by decide +kernel
theorem dX0_init_44 : decode cX0_init 44 = .ok (.aload_n 0, 1) := by decide +kernel
theorem dX0_init_45 : decode cX0_init 45 = .ok (.getfield 13, 3) := by decide +kernel
theorem dX0_init_48 : decode cX0_init 48 = .ok (.ldc 23, 2) := by decide +kernel
theorem dX0_init_50 : decode cX0_init 50 = .ok (.invokestatic 24, 3) := by decide +kernel
theorem dX0_init_53 : decode cX0_init 53 = .ok (.return_, 1) := by decide +kernel
set_option maxRecDepth 20000 in
theorem ggX0_put_X0_needRow : GoodIn wsX0_put wsX0_needRow := goodIn_ca (goodIn_r _ [5, 6, 7] (by decide +kernel) (by decide +kernel)) (goodIn_sub (fun _ h => List.mem_cons_of_mem _ (List.mem_append_left _ (List.mem_append_right _ h))) (by decide +kernel))
set_option maxRecDepth 20000 in
theorem gX0_put_X0_needRow : GoodIn wsX0_put (va_wsS RX0 30 yX0_needRow wsX0_needRow) := goodIn_app (goodIn_of _ (by decide +kernel)) ggX0_put_X0_needRow
set_option maxRecDepth 20000 in
theorem ggX0_put_X0_needPlace : GoodIn wsX0_put wsX0_needPlace := goodIn_ca (goodIn_r _ [10, 6, 7] (by decide +kernel) (by decide +kernel)) (goodIn_sub (fun _ h => List.mem_cons_of_mem _ (List.mem_append_left _ (List.mem_append_right _ h))) (by decide +kernel))
set_option maxRecDepth 20000 in
theorem gX0_put_X0_needPlace : GoodIn wsX0_put (va_wsS RX0 34 yX0_needPlace wsX0_needPlace) := goodIn_app (goodIn_of _ (by decide +kernel)) ggX0_put_X0_needPlace
set_option maxRecDepth 20000 in
theorem ggX0_put_X0_needNumber : GoodIn wsX0_put wsX0_needNumber := goodIn_ca (goodIn_r _ [13, 14, 15, 16, 17, 18] (by decide +kernel) (by decide +kernel)) (goodIn_sub (fun _ h => List.mem_cons_of_mem _ (List.mem_append_right _ h)) (by decide +kernel))
set_option maxRecDepth 20000 in
theorem gX0_put_X0_needNumber : GoodIn wsX0_put (va_wsS RX0 37 yX0_needNumber wsX0_needNumber) := goodIn_app (goodIn_of _ (by decide +kernel)) ggX0_put_X0_needNumber
set_option maxRecDepth 20000 in
theorem ggX0_put_X0_spot : GoodIn wsX0_put wsX0_spot := goodIn_r _ [21] (by decide +kernel) (by decide +kernel)
set_option maxRecDepth 20000 in
theorem gX0_put_X0_spot : GoodIn wsX0_put (va_wsS RX0 40 yX0_spot wsX0_spot) := goodIn_app (goodIn_of _ (by decide +kernel)) ggX0_put_X0_spot
set_option maxRecDepth 20000 in
theorem ggX0_put_X0_store : GoodIn wsX0_put wsX0_store := goodIn_r _ [24] (by decide +kernel) (by decide +kernel)
set_option maxRecDepth 20000 in
theorem gX0_put_X0_store : GoodIn wsX0_put (va_wsS RX0 44 yX0_store wsX0_store) := goodIn_app (goodIn_of _ (by decide +kernel)) ggX0_put_X0_store
theorem dX0_put_0 : decode cX0_put 0 = .ok (.iload_n 1, 1) := by decide +kernel
theorem dX0_put_1 : decode cX0_put 1 = .ok (.invokestatic 30, 3) := by decide +kernel
theorem dX0_put_4 : decode cX0_put 4 = .ok (.iload_n 2, 1) := by decide +kernel
theorem dX0_put_5 : decode cX0_put 5 = .ok (.invokestatic 34, 3) := by decide +kernel
theorem dX0_put_8 : decode cX0_put 8 = .ok (.iload_n 3, 1) := by decide +kernel
theorem dX0_put_9 : decode cX0_put 9 = .ok (.invokestatic 37, 3) := by decide +kernel
theorem dX0_put_12 : decode cX0_put 12 = .ok (.aload_n 0, 1) := by decide +kernel
theorem dX0_put_13 : decode cX0_put 13 = .ok (.getfield 9, 3) := by decide +kernel
theorem dX0_put_16 : decode cX0_put 16 = .ok (.iload_n 1, 1) := by decide +kernel
theorem dX0_put_17 : decode cX0_put 17 = .ok (.iload_n 2, 1) := by decide +kernel
theorem dX0_put_18 : decode cX0_put 18 = .ok (.invokestatic 40, 3) := by decide +kernel
theorem dX0_put_21 : decode cX0_put 21 = .ok (.iload_n 3, 1) := by decide +kernel
theorem dX0_put_22 : decode cX0_put 22 = .ok (.invokestatic 44, 3) := by decide +kernel
theorem dX0_put_25 : decode cX0_put 25 = .ok (.ireturn, 1) := by decide +kernel
set_option maxRecDepth 20000 in
theorem ggX0_reading_X0_needRow : GoodIn wsX0_reading wsX0_needRow := goodIn_ca (goodIn_r _ [5, 6, 7] (by decide +kernel) (by decide +kernel)) (goodIn_sub (fun _ h => List.mem_cons_of_mem _ (List.mem_append_right _ h)) (by decide +kernel))
set_option maxRecDepth 20000 in
theorem gX0_reading_X0_needRow : GoodIn wsX0_reading (va_wsS RX0 30 yX0_needRow wsX0_needRow) := goodIn_app (goodIn_of _ (by decide +kernel)) ggX0_reading_X0_needRow
set_option maxRecDepth 20000 in
theorem ggX0_reading_X0_needPlace : GoodIn wsX0_reading wsX0_needPlace := goodIn_ca (goodIn_r _ [10, 6, 7] (by decide +kernel) (by decide +kernel)) (goodIn_sub (fun _ h => List.mem_cons_of_mem _ (List.mem_append_right _ h)) (by decide +kernel))
set_option maxRecDepth 20000 in
theorem gX0_reading_X0_needPlace : GoodIn wsX0_reading (va_wsS RX0 34 yX0_needPlace wsX0_needPlace) := goodIn_app (goodIn_of _ (by decide +kernel)) ggX0_reading_X0_needPlace
set_option maxRecDepth 20000 in
theorem ggX0_reading_X0_spot : GoodIn wsX0_reading wsX0_spot := goodIn_r _ [13] (by decide +kernel) (by decide +kernel)
set_option maxRecDepth 20000 in
theorem gX0_reading_X0_spot : GoodIn wsX0_reading (va_wsS RX0 40 yX0_spot wsX0_spot) := goodIn_app (goodIn_of _ (by decide +kernel)) ggX0_reading_X0_spot
theorem dX0_reading_0 : decode cX0_reading 0 = .ok (.iload_n 1, 1) := by decide +kernel
theorem dX0_reading_1 : decode cX0_reading 1 = .ok (.invokestatic 30, 3) := by decide +kernel
theorem dX0_reading_4 : decode cX0_reading 4 = .ok (.iload_n 2, 1) := by decide +kernel
theorem dX0_reading_5 : decode cX0_reading 5 = .ok (.invokestatic 34, 3) := by decide +kernel
theorem dX0_reading_8 : decode cX0_reading 8 = .ok (.aload_n 0, 1) := by decide +kernel
theorem dX0_reading_9 : decode cX0_reading 9 = .ok (.getfield 9, 3) := by decide +kernel
theorem dX0_reading_12 : decode cX0_reading 12 = .ok (.iload_n 1, 1) := by decide +kernel
theorem dX0_reading_13 : decode cX0_reading 13 = .ok (.iload_n 2, 1) := by decide +kernel
theorem dX0_reading_14 : decode cX0_reading 14 = .ok (.invokestatic 40, 3) := by decide +kernel
theorem dX0_reading_17 : decode cX0_reading 17 = .ok (.iaload, 1) := by decide +kernel
theorem dX0_reading_18 : decode cX0_reading 18 = .ok (.ireturn, 1) := by decide +kernel
set_option maxRecDepth 20000 in
theorem ggX0_level_X0_needGate : GoodIn wsX0_level wsX0_needGate := goodIn_ca (goodIn_r _ [5, 6, 7] (by decide +kernel) (by decide +kernel)) (goodIn_sub (fun _ h => List.mem_cons_of_mem _ (List.mem_append_left _ (List.mem_append_right _ h))) (by decide +kernel))
set_option maxRecDepth 20000 in
theorem gX0_level_X0_needGate : GoodIn wsX0_level (va_wsS RX0 48 yX0_needGate wsX0_needGate) := goodIn_app (goodIn_of _ (by decide +kernel)) ggX0_level_X0_needGate
set_option maxRecDepth 20000 in
theorem ggX0_level_X0_needNumber : GoodIn wsX0_level wsX0_needNumber := goodIn_ca (goodIn_r _ [10, 11, 12, 13, 14, 15] (by decide +kernel) (by decide +kernel)) (goodIn_sub (fun _ h => List.mem_cons_of_mem _ (List.mem_append_right _ h)) (by decide +kernel))
set_option maxRecDepth 20000 in
theorem gX0_level_X0_needNumber : GoodIn wsX0_level (va_wsS RX0 37 yX0_needNumber wsX0_needNumber) := goodIn_app (goodIn_of _ (by decide +kernel)) ggX0_level_X0_needNumber
set_option maxRecDepth 20000 in
theorem ggX0_level_X0_levelSpot : GoodIn wsX0_level wsX0_levelSpot := goodIn_r _ [18] (by decide +kernel) (by decide +kernel)
set_option maxRecDepth 20000 in
theorem gX0_level_X0_levelSpot : GoodIn wsX0_level (va_wsS RX0 51 yX0_levelSpot wsX0_levelSpot) := goodIn_app (goodIn_of _ (by decide +kernel)) ggX0_level_X0_levelSpot
set_option maxRecDepth 20000 in
theorem ggX0_level_X0_store : GoodIn wsX0_level wsX0_store := goodIn_r _ [21] (by decide +kernel) (by decide +kernel)
set_option maxRecDepth 20000 in
theorem gX0_level_X0_store : GoodIn wsX0_level (va_wsS RX0 44 yX0_store wsX0_store) := goodIn_app (goodIn_of _ (by decide +kernel)) ggX0_level_X0_store
theorem dX0_level_0 : decode cX0_level 0 = .ok (.iload_n 1, 1) := by decide +kernel
theorem dX0_level_1 : decode cX0_level 1 = .ok (.invokestatic 48, 3) := by decide +kernel
theorem dX0_level_4 : decode cX0_level 4 = .ok (.iload_n 3, 1) := by decide +kernel
theorem dX0_level_5 : decode cX0_level 5 = .ok (.invokestatic 37, 3) := by decide +kernel
theorem dX0_level_8 : decode cX0_level 8 = .ok (.aload_n 0, 1) := by decide +kernel
theorem dX0_level_9 : decode cX0_level 9 = .ok (.getfield 13, 3) := by decide +kernel
theorem dX0_level_12 : decode cX0_level 12 = .ok (.iload_n 1, 1) := by decide +kernel
theorem dX0_level_13 : decode cX0_level 13 = .ok (.iload_n 2, 1) := by decide +kernel
theorem dX0_level_14 : decode cX0_level 14 = .ok (.invokestatic 51, 3) := by decide +kernel
theorem dX0_level_17 : decode cX0_level 17 = .ok (.iload_n 3, 1) := by decide +kernel
theorem dX0_level_18 : decode cX0_level 18 = .ok (.invokestatic 44, 3) := by decide +kernel
theorem dX0_level_21 : decode cX0_level 21 = .ok (.ireturn, 1) := by decide +kernel
set_option maxRecDepth 20000 in
theorem ggX0_copy_X0_needRow : GoodIn wsX0_copy wsX0_needRow := goodIn_ca (goodIn_r _ [5, 6, 7] (by decide +kernel) (by decide +kernel)) (goodIn_sub (fun _ h => List.mem_cons_of_mem _ (List.mem_append_left _ (List.mem_append_right _ h))) (by decide +kernel))
set_option maxRecDepth 20000 in
theorem gX0_copy_X0_needRow : GoodIn wsX0_copy (va_wsS RX0 30 yX0_needRow wsX0_needRow) := goodIn_app (goodIn_of _ (by decide +kernel)) ggX0_copy_X0_needRow
set_option maxRecDepth 20000 in
theorem ggX0_copy_X0_needOneSort : GoodIn wsX0_copy wsX0_needOneSort := goodIn_ca (goodIn_r _ [10, 11, 12, 13, 14, 4, 15] (by decide +kernel) (by decide +kernel)) (goodIn_sub (fun _ h => List.mem_cons_of_mem _ (List.mem_append_right _ h)) (by decide +kernel))
set_option maxRecDepth 20000 in
theorem gX0_copy_X0_needOneSort : GoodIn wsX0_copy (va_wsS RX0 55 yX0_needOneSort wsX0_needOneSort) := goodIn_app (goodIn_of _ (by decide +kernel)) ggX0_copy_X0_needOneSort
set_option maxRecDepth 20000 in
theorem ggX0_copy_X0_spot : GoodIn wsX0_copy wsX0_spot := goodIn_r _ [18] (by decide +kernel) (by decide +kernel)
set_option maxRecDepth 20000 in
theorem gX0_copy_X0_spot : GoodIn wsX0_copy (va_wsS RX0 40 yX0_spot wsX0_spot) := goodIn_app (goodIn_of _ (by decide +kernel)) ggX0_copy_X0_spot
set_option maxRecDepth 20000 in
theorem ggX0_copy_X0_countMissing : GoodIn wsX0_copy wsX0_countMissing := goodIn_r _ [22, 1, 16, 17, 4, 18, 23, 24, 25, 26, 27, 28, 29, 30] (by decide +kernel) (by decide +kernel)
set_option maxRecDepth 20000 in
theorem gX0_copy_X0_countMissing : GoodIn wsX0_copy (wsV RX0 59 RX0 yX0_countMissing wsX0_countMissing) := goodIn_app (goodIn_of _ (by decide +kernel)) ggX0_copy_X0_countMissing
theorem dX0_copy_0 : decode cX0_copy 0 = .ok (.iload_n 1, 1) := by decide +kernel
theorem dX0_copy_1 : decode cX0_copy 1 = .ok (.invokestatic 30, 3) := by decide +kernel
theorem dX0_copy_4 : decode cX0_copy 4 = .ok (.iload_n 2, 1) := by decide +kernel
theorem dX0_copy_5 : decode cX0_copy 5 = .ok (.invokestatic 30, 3) := by decide +kernel
theorem dX0_copy_8 : decode cX0_copy 8 = .ok (.iload_n 1, 1) := by decide +kernel
theorem dX0_copy_9 : decode cX0_copy 9 = .ok (.iload_n 2, 1) := by decide +kernel
theorem dX0_copy_10 : decode cX0_copy 10 = .ok (.invokestatic 55, 3) := by decide +kernel
theorem dX0_copy_13 : decode cX0_copy 13 = .ok (.iconst 0, 1) := by decide +kernel
theorem dX0_copy_14 : decode cX0_copy 14 = .ok (.istore_n 3, 1) := by decide +kernel
theorem dX0_copy_15 : decode cX0_copy 15 = .ok (.iload_n 3, 1) := by decide +kernel
theorem dX0_copy_16 : decode cX0_copy 16 = .ok (.bipush 12, 2) := by decide +kernel
theorem dX0_copy_18 : decode cX0_copy 18 = .ok (.if_icmp .ge 29, 3) := by decide +kernel
theorem dX0_copy_21 : decode cX0_copy 21 = .ok (.aload_n 0, 1) := by decide +kernel
theorem dX0_copy_22 : decode cX0_copy 22 = .ok (.getfield 9, 3) := by decide +kernel
theorem dX0_copy_25 : decode cX0_copy 25 = .ok (.iload_n 2, 1) := by decide +kernel
theorem dX0_copy_26 : decode cX0_copy 26 = .ok (.iload_n 3, 1) := by decide +kernel
theorem dX0_copy_27 : decode cX0_copy 27 = .ok (.invokestatic 40, 3) := by decide +kernel
theorem dX0_copy_30 : decode cX0_copy 30 = .ok (.aload_n 0, 1) := by decide +kernel
theorem dX0_copy_31 : decode cX0_copy 31 = .ok (.getfield 9, 3) := by decide +kernel
theorem dX0_copy_34 : decode cX0_copy 34 = .ok (.iload_n 1, 1) := by decide +kernel
theorem dX0_copy_35 : decode cX0_copy 35 = .ok (.iload_n 3, 1) := by decide +kernel
theorem dX0_copy_36 : decode cX0_copy 36 = .ok (.invokestatic 40, 3) := by decide +kernel
theorem dX0_copy_39 : decode cX0_copy 39 = .ok (.iaload, 1) := by decide +kernel
theorem dX0_copy_40 : decode cX0_copy 40 = .ok (.iastore, 1) := by decide +kernel
theorem dX0_copy_41 : decode cX0_copy 41 = .ok (.iinc 3 1, 3) := by decide +kernel
theorem dX0_copy_44 : decode cX0_copy 44 = .ok (.goto (-29), 3) := by decide +kernel
theorem dX0_copy_47 : decode cX0_copy 47 = .ok (.aload_n 0, 1) := by decide +kernel
theorem dX0_copy_48 : decode cX0_copy 48 = .ok (.iload_n 2, 1) := by decide +kernel
theorem dX0_copy_49 : decode cX0_copy 49 = .ok (.invokevirtual 59, 3) := by decide +kernel
theorem dX0_copy_52 : decode cX0_copy 52 = .ok (.ireturn, 1) := by decide +kernel
set_option maxRecDepth 20000 in
theorem ggX0_straight_X0_needRow : GoodIn wsX0_straight wsX0_needRow := goodIn_ca (goodIn_r _ [5, 6, 7] (by decide +kernel) (by decide +kernel)) (goodIn_sub (fun _ h => List.mem_cons_of_mem _ (List.mem_append_left _ (List.mem_append_right _ h))) (by decide +kernel))
set_option maxRecDepth 20000 in
theorem gX0_straight_X0_needRow : GoodIn wsX0_straight (va_wsS RX0 30 yX0_needRow wsX0_needRow) := goodIn_app (goodIn_of _ (by decide +kernel)) ggX0_straight_X0_needRow
set_option maxRecDepth 20000 in
theorem ggX0_straight_X0_needGate : GoodIn wsX0_straight wsX0_needGate := goodIn_ca (goodIn_r _ [10, 6, 7] (by decide +kernel) (by decide +kernel)) (goodIn_sub (fun _ h => List.mem_cons_of_mem _ (List.mem_append_left _ (List.mem_append_right _ h))) (by decide +kernel))
set_option maxRecDepth 20000 in
theorem gX0_straight_X0_needGate : GoodIn wsX0_straight (va_wsS RX0 48 yX0_needGate wsX0_needGate) := goodIn_app (goodIn_of _ (by decide +kernel)) ggX0_straight_X0_needGate
set_option maxRecDepth 20000 in
theorem ggX0_straight_X0_needSign : GoodIn wsX0_straight wsX0_needSign := goodIn_ca (goodIn_r _ [13, 14, 15] (by decide +kernel) (by decide +kernel)) (goodIn_sub (fun _ h => List.mem_cons_of_mem _ (List.mem_append_right _ h)) (by decide +kernel))
set_option maxRecDepth 20000 in
theorem gX0_straight_X0_needSign : GoodIn wsX0_straight (va_wsS RX0 63 yX0_needSign wsX0_needSign) := goodIn_app (goodIn_of _ (by decide +kernel)) ggX0_straight_X0_needSign
set_option maxRecDepth 20000 in
theorem ggX0_straight_X0_levelFor : GoodIn wsX0_straight wsX0_levelFor := goodIn_r _ [19, 20, 21, 22, 4, 23, 24, 25, 26, 34, 35, 36, 37] (by decide +kernel) (by decide +kernel)
set_option maxRecDepth 20000 in
theorem gX0_straight_X0_levelFor : GoodIn wsX0_straight (wsV RX0 66 RX0 yX0_levelFor wsX0_levelFor) := goodIn_app (goodIn_of _ (by decide +kernel)) ggX0_straight_X0_levelFor
set_option maxRecDepth 20000 in
theorem ggX0_straight_X0_spot : GoodIn wsX0_straight wsX0_spot := goodIn_r _ [29] (by decide +kernel) (by decide +kernel)
set_option maxRecDepth 20000 in
theorem gX0_straight_X0_spot : GoodIn wsX0_straight (va_wsS RX0 40 yX0_spot wsX0_spot) := goodIn_app (goodIn_of _ (by decide +kernel)) ggX0_straight_X0_spot
set_option maxRecDepth 20000 in
theorem ggX0_straight_X0_isTrue : GoodIn wsX0_straight wsX0_isTrue := goodIn_r _ [32, 33] (by decide +kernel) (by decide +kernel)
set_option maxRecDepth 20000 in
theorem gX0_straight_X0_isTrue : GoodIn wsX0_straight (va_wsS RX0 69 yX0_isTrue wsX0_isTrue) := goodIn_app (goodIn_of _ (by decide +kernel)) ggX0_straight_X0_isTrue
theorem dX0_straight_0 : decode cX0_straight 0 = .ok (.iload_n 1, 1) := by decide +kernel
theorem dX0_straight_1 : decode cX0_straight 1 = .ok (.invokestatic 30, 3) := by decide +kernel
theorem dX0_straight_4 : decode cX0_straight 4 = .ok (.iload_n 3, 1) := by decide +kernel
theorem dX0_straight_5 : decode cX0_straight 5 = .ok (.invokestatic 48, 3) := by decide +kernel
theorem dX0_straight_8 : decode cX0_straight 8 = .ok (.iload_n 2, 1) := by decide +kernel
theorem dX0_straight_9 : decode cX0_straight 9 = .ok (.invokestatic 63, 3) := by decide +kernel
theorem dX0_straight_12 : decode cX0_straight 12 = .ok (.aload_n 0, 1) := by decide +kernel
theorem dX0_straight_13 : decode cX0_straight 13 = .ok (.iload_n 3, 1) := by decide +kernel
theorem dX0_straight_14 : decode cX0_straight 14 = .ok (.iload_n 1, 1) := by decide +kernel
theorem dX0_straight_15 : decode cX0_straight 15 = .ok (.invokevirtual 66, 3) := by decide +kernel
theorem dX0_straight_18 : decode cX0_straight 18 = .ok (.istore 4, 2) := by decide +kernel
theorem dX0_straight_20 : decode cX0_straight 20 = .ok (.iconst 0, 1) := by decide +kernel
theorem dX0_straight_21 : decode cX0_straight 21 = .ok (.istore 5, 2) := by decide +kernel
theorem dX0_straight_23 : decode cX0_straight 23 = .ok (.iconst 0, 1) := by decide +kernel
theorem dX0_straight_24 : decode cX0_straight 24 = .ok (.istore 6, 2) := by decide +kernel
theorem dX0_straight_26 : decode cX0_straight 26 = .ok (.iload 6, 2) := by decide +kernel
theorem dX0_straight_28 : decode cX0_straight 28 = .ok (.bipush 12, 2) := by decide +kernel
theorem dX0_straight_30 : decode cX0_straight 30 = .ok (.if_icmp .ge 32, 3) := by decide +kernel
theorem dX0_straight_33 : decode cX0_straight 33 = .ok (.iload_n 2, 1) := by decide +kernel
theorem dX0_straight_34 : decode cX0_straight 34 = .ok (.aload_n 0, 1) := by decide +kernel
theorem dX0_straight_35 : decode cX0_straight 35 = .ok (.getfield 9, 3) := by decide +kernel
theorem dX0_straight_38 : decode cX0_straight 38 = .ok (.iload_n 1, 1) := by decide +kernel
theorem dX0_straight_39 : decode cX0_straight 39 = .ok (.iload 6, 2) := by decide +kernel
theorem dX0_straight_41 : decode cX0_straight 41 = .ok (.invokestatic 40, 3) := by decide +kernel
theorem dX0_straight_44 : decode cX0_straight 44 = .ok (.iaload, 1) := by decide +kernel
theorem dX0_straight_45 : decode cX0_straight 45 = .ok (.iload 4, 2) := by decide +kernel
theorem dX0_straight_47 : decode cX0_straight 47 = .ok (.invokestatic 69, 3) := by decide +kernel
theorem dX0_straight_50 : decode cX0_straight 50 = .ok (.ifCond .eq 6, 3) := by decide +kernel
theorem dX0_straight_53 : decode cX0_straight 53 = .ok (.iinc 5 1, 3) := by decide +kernel
theorem dX0_straight_56 : decode cX0_straight 56 = .ok (.iinc 6 1, 3) := by decide +kernel
theorem dX0_straight_59 : decode cX0_straight 59 = .ok (.goto (-33), 3) := by decide +kernel
theorem dX0_straight_62 : decode cX0_straight 62 = .ok (.iload 5, 2) := by decide +kernel
theorem dX0_straight_64 : decode cX0_straight 64 = .ok (.ireturn, 1) := by decide +kernel
set_option maxRecDepth 20000 in
theorem ggX0_turned_X0_needRow : GoodIn wsX0_turned wsX0_needRow := goodIn_ca (goodIn_r _ [5, 6, 7] (by decide +kernel) (by decide +kernel)) (goodIn_sub (fun _ h => List.mem_cons_of_mem _ (List.mem_append_left _ (List.mem_append_right _ h))) (by decide +kernel))
set_option maxRecDepth 20000 in
theorem gX0_turned_X0_needRow : GoodIn wsX0_turned (va_wsS RX0 30 yX0_needRow wsX0_needRow) := goodIn_app (goodIn_of _ (by decide +kernel)) ggX0_turned_X0_needRow
set_option maxRecDepth 20000 in
theorem ggX0_turned_X0_needGate : GoodIn wsX0_turned wsX0_needGate := goodIn_ca (goodIn_r _ [10, 6, 7] (by decide +kernel) (by decide +kernel)) (goodIn_sub (fun _ h => List.mem_cons_of_mem _ (List.mem_append_left _ (List.mem_append_right _ h))) (by decide +kernel))
set_option maxRecDepth 20000 in
theorem gX0_turned_X0_needGate : GoodIn wsX0_turned (va_wsS RX0 48 yX0_needGate wsX0_needGate) := goodIn_app (goodIn_of _ (by decide +kernel)) ggX0_turned_X0_needGate
set_option maxRecDepth 20000 in
theorem ggX0_turned_X0_needSign : GoodIn wsX0_turned wsX0_needSign := goodIn_ca (goodIn_r _ [13, 14, 15] (by decide +kernel) (by decide +kernel)) (goodIn_sub (fun _ h => List.mem_cons_of_mem _ (List.mem_append_right _ h)) (by decide +kernel))
set_option maxRecDepth 20000 in
theorem gX0_turned_X0_needSign : GoodIn wsX0_turned (va_wsS RX0 63 yX0_needSign wsX0_needSign) := goodIn_app (goodIn_of _ (by decide +kernel)) ggX0_turned_X0_needSign
set_option maxRecDepth 20000 in
theorem ggX0_turned_X0_levelFor : GoodIn wsX0_turned wsX0_levelFor := goodIn_r _ [19, 20, 21, 22, 4, 23, 24, 25, 26, 34, 35, 36, 37] (by decide +kernel) (by decide +kernel)
set_option maxRecDepth 20000 in
theorem gX0_turned_X0_levelFor : GoodIn wsX0_turned (wsV RX0 66 RX0 yX0_levelFor wsX0_levelFor) := goodIn_app (goodIn_of _ (by decide +kernel)) ggX0_turned_X0_levelFor
set_option maxRecDepth 20000 in
theorem ggX0_turned_X0_spot : GoodIn wsX0_turned wsX0_spot := goodIn_r _ [29] (by decide +kernel) (by decide +kernel)
set_option maxRecDepth 20000 in
theorem gX0_turned_X0_spot : GoodIn wsX0_turned (va_wsS RX0 40 yX0_spot wsX0_spot) := goodIn_app (goodIn_of _ (by decide +kernel)) ggX0_turned_X0_spot
set_option maxRecDepth 20000 in
theorem ggX0_turned_X0_isTrue : GoodIn wsX0_turned wsX0_isTrue := goodIn_r _ [32, 33] (by decide +kernel) (by decide +kernel)
set_option maxRecDepth 20000 in
theorem gX0_turned_X0_isTrue : GoodIn wsX0_turned (va_wsS RX0 69 yX0_isTrue wsX0_isTrue) := goodIn_app (goodIn_of _ (by decide +kernel)) ggX0_turned_X0_isTrue
theorem dX0_turned_0 : decode cX0_turned 0 = .ok (.iload_n 1, 1) := by decide +kernel
theorem dX0_turned_1 : decode cX0_turned 1 = .ok (.invokestatic 30, 3) := by decide +kernel
theorem dX0_turned_4 : decode cX0_turned 4 = .ok (.iload_n 3, 1) := by decide +kernel
theorem dX0_turned_5 : decode cX0_turned 5 = .ok (.invokestatic 48, 3) := by decide +kernel
theorem dX0_turned_8 : decode cX0_turned 8 = .ok (.iload_n 2, 1) := by decide +kernel
theorem dX0_turned_9 : decode cX0_turned 9 = .ok (.invokestatic 63, 3) := by decide +kernel
theorem dX0_turned_12 : decode cX0_turned 12 = .ok (.aload_n 0, 1) := by decide +kernel
theorem dX0_turned_13 : decode cX0_turned 13 = .ok (.iload_n 3, 1) := by decide +kernel
theorem dX0_turned_14 : decode cX0_turned 14 = .ok (.iload_n 1, 1) := by decide +kernel
theorem dX0_turned_15 : decode cX0_turned 15 = .ok (.invokevirtual 66, 3) := by decide +kernel
theorem dX0_turned_18 : decode cX0_turned 18 = .ok (.istore 4, 2) := by decide +kernel
theorem dX0_turned_20 : decode cX0_turned 20 = .ok (.iconst 0, 1) := by decide +kernel
theorem dX0_turned_21 : decode cX0_turned 21 = .ok (.istore 5, 2) := by decide +kernel
theorem dX0_turned_23 : decode cX0_turned 23 = .ok (.iconst 0, 1) := by decide +kernel
theorem dX0_turned_24 : decode cX0_turned 24 = .ok (.istore 6, 2) := by decide +kernel
theorem dX0_turned_26 : decode cX0_turned 26 = .ok (.iload 6, 2) := by decide +kernel
theorem dX0_turned_28 : decode cX0_turned 28 = .ok (.bipush 12, 2) := by decide +kernel
theorem dX0_turned_30 : decode cX0_turned 30 = .ok (.if_icmp .ge 32, 3) := by decide +kernel
theorem dX0_turned_33 : decode cX0_turned 33 = .ok (.iload_n 2, 1) := by decide +kernel
theorem dX0_turned_34 : decode cX0_turned 34 = .ok (.iload 4, 2) := by decide +kernel
theorem dX0_turned_36 : decode cX0_turned 36 = .ok (.aload_n 0, 1) := by decide +kernel
theorem dX0_turned_37 : decode cX0_turned 37 = .ok (.getfield 9, 3) := by decide +kernel
theorem dX0_turned_40 : decode cX0_turned 40 = .ok (.iload_n 1, 1) := by decide +kernel
theorem dX0_turned_41 : decode cX0_turned 41 = .ok (.iload 6, 2) := by decide +kernel
theorem dX0_turned_43 : decode cX0_turned 43 = .ok (.invokestatic 40, 3) := by decide +kernel
theorem dX0_turned_46 : decode cX0_turned 46 = .ok (.iaload, 1) := by decide +kernel
theorem dX0_turned_47 : decode cX0_turned 47 = .ok (.invokestatic 69, 3) := by decide +kernel
theorem dX0_turned_50 : decode cX0_turned 50 = .ok (.ifCond .ne 6, 3) := by decide +kernel
theorem dX0_turned_53 : decode cX0_turned 53 = .ok (.iinc 5 1, 3) := by decide +kernel
theorem dX0_turned_56 : decode cX0_turned 56 = .ok (.iinc 6 1, 3) := by decide +kernel
theorem dX0_turned_59 : decode cX0_turned 59 = .ok (.goto (-33), 3) := by decide +kernel
theorem dX0_turned_62 : decode cX0_turned 62 = .ok (.iload 5, 2) := by decide +kernel
theorem dX0_turned_64 : decode cX0_turned 64 = .ok (.ireturn, 1) := by decide +kernel
set_option maxRecDepth 20000 in
theorem ggX0_between_X0_needRow : GoodIn wsX0_between wsX0_needRow := goodIn_ca (goodIn_r _ [5, 6, 7] (by decide +kernel) (by decide +kernel)) (goodIn_sub (fun _ h => List.mem_cons_of_mem _ (List.mem_append_right _ h)) (by decide +kernel))
set_option maxRecDepth 20000 in
theorem gX0_between_X0_needRow : GoodIn wsX0_between (va_wsS RX0 30 yX0_needRow wsX0_needRow) := goodIn_app (goodIn_of _ (by decide +kernel)) ggX0_between_X0_needRow
set_option maxRecDepth 20000 in
theorem ggX0_between_X0_needGate : GoodIn wsX0_between wsX0_needGate := goodIn_ca (goodIn_r _ [10, 6, 7] (by decide +kernel) (by decide +kernel)) (goodIn_sub (fun _ h => List.mem_cons_of_mem _ (List.mem_append_right _ h)) (by decide +kernel))
set_option maxRecDepth 20000 in
theorem gX0_between_X0_needGate : GoodIn wsX0_between (va_wsS RX0 48 yX0_needGate wsX0_needGate) := goodIn_app (goodIn_of _ (by decide +kernel)) ggX0_between_X0_needGate
set_option maxRecDepth 20000 in
theorem ggX0_between_X0_levelFor : GoodIn wsX0_between wsX0_levelFor := goodIn_r _ [14, 15, 16, 17, 4, 18, 19, 20, 21, 29, 30, 31, 32] (by decide +kernel) (by decide +kernel)
set_option maxRecDepth 20000 in
theorem gX0_between_X0_levelFor : GoodIn wsX0_between (wsV RX0 66 RX0 yX0_levelFor wsX0_levelFor) := goodIn_app (goodIn_of _ (by decide +kernel)) ggX0_between_X0_levelFor
set_option maxRecDepth 20000 in
theorem ggX0_between_X0_spot : GoodIn wsX0_between wsX0_spot := goodIn_r _ [24] (by decide +kernel) (by decide +kernel)
set_option maxRecDepth 20000 in
theorem gX0_between_X0_spot : GoodIn wsX0_between (va_wsS RX0 40 yX0_spot wsX0_spot) := goodIn_app (goodIn_of _ (by decide +kernel)) ggX0_between_X0_spot
set_option maxRecDepth 20000 in
theorem ggX0_between_X0_isTrue : GoodIn wsX0_between wsX0_isTrue := goodIn_r _ [27, 28] (by decide +kernel) (by decide +kernel)
set_option maxRecDepth 20000 in
theorem gX0_between_X0_isTrue : GoodIn wsX0_between (va_wsS RX0 69 yX0_isTrue wsX0_isTrue) := goodIn_app (goodIn_of _ (by decide +kernel)) ggX0_between_X0_isTrue
theorem dX0_between_0 : decode cX0_between 0 = .ok (.iload_n 1, 1) := by decide +kernel
theorem dX0_between_1 : decode cX0_between 1 = .ok (.invokestatic 30, 3) := by decide +kernel
theorem dX0_between_4 : decode cX0_between 4 = .ok (.iload_n 2, 1) := by decide +kernel
theorem dX0_between_5 : decode cX0_between 5 = .ok (.invokestatic 48, 3) := by decide +kernel
theorem dX0_between_8 : decode cX0_between 8 = .ok (.iload_n 3, 1) := by decide +kernel
theorem dX0_between_9 : decode cX0_between 9 = .ok (.invokestatic 48, 3) := by decide +kernel
theorem dX0_between_12 : decode cX0_between 12 = .ok (.aload_n 0, 1) := by decide +kernel
theorem dX0_between_13 : decode cX0_between 13 = .ok (.iload_n 2, 1) := by decide +kernel
theorem dX0_between_14 : decode cX0_between 14 = .ok (.iload_n 1, 1) := by decide +kernel
theorem dX0_between_15 : decode cX0_between 15 = .ok (.invokevirtual 66, 3) := by decide +kernel
theorem dX0_between_18 : decode cX0_between 18 = .ok (.istore 4, 2) := by decide +kernel
theorem dX0_between_20 : decode cX0_between 20 = .ok (.aload_n 0, 1) := by decide +kernel
theorem dX0_between_21 : decode cX0_between 21 = .ok (.iload_n 3, 1) := by decide +kernel
theorem dX0_between_22 : decode cX0_between 22 = .ok (.iload_n 1, 1) := by decide +kernel
theorem dX0_between_23 : decode cX0_between 23 = .ok (.invokevirtual 66, 3) := by decide +kernel
theorem dX0_between_26 : decode cX0_between 26 = .ok (.istore 5, 2) := by decide +kernel
theorem dX0_between_28 : decode cX0_between 28 = .ok (.iconst 0, 1) := by decide +kernel
theorem dX0_between_29 : decode cX0_between 29 = .ok (.istore 6, 2) := by decide +kernel
theorem dX0_between_31 : decode cX0_between 31 = .ok (.iconst 0, 1) := by decide +kernel
theorem dX0_between_32 : decode cX0_between 32 = .ok (.istore 7, 2) := by decide +kernel
theorem dX0_between_34 : decode cX0_between 34 = .ok (.iconst 0, 1) := by decide +kernel
theorem dX0_between_35 : decode cX0_between 35 = .ok (.istore 8, 2) := by decide +kernel
theorem dX0_between_37 : decode cX0_between 37 = .ok (.iload 8, 2) := by decide +kernel
theorem dX0_between_39 : decode cX0_between 39 = .ok (.bipush 12, 2) := by decide +kernel
theorem dX0_between_41 : decode cX0_between 41 = .ok (.if_icmp .ge 72, 3) := by decide +kernel
theorem dX0_between_44 : decode cX0_between 44 = .ok (.aload_n 0, 1) := by decide +kernel
theorem dX0_between_45 : decode cX0_between 45 = .ok (.getfield 9, 3) := by decide +kernel
theorem dX0_between_48 : decode cX0_between 48 = .ok (.iload_n 1, 1) := by decide +kernel
theorem dX0_between_49 : decode cX0_between 49 = .ok (.iload 8, 2) := by decide +kernel
theorem dX0_between_51 : decode cX0_between 51 = .ok (.invokestatic 40, 3) := by decide +kernel
theorem dX0_between_54 : decode cX0_between 54 = .ok (.iaload, 1) := by decide +kernel
theorem dX0_between_55 : decode cX0_between 55 = .ok (.istore 9, 2) := by decide +kernel
theorem dX0_between_57 : decode cX0_between 57 = .ok (.iconst 3, 1) := by decide +kernel
theorem dX0_between_58 : decode cX0_between 58 = .ok (.iload 9, 2) := by decide +kernel
theorem dX0_between_60 : decode cX0_between 60 = .ok (.iload 4, 2) := by decide +kernel
theorem dX0_between_62 : decode cX0_between 62 = .ok (.invokestatic 69, 3) := by decide +kernel
theorem dX0_between_65 : decode cX0_between 65 = .ok (.ifCond .eq 17, 3) := by decide +kernel
theorem dX0_between_68 : decode cX0_between 68 = .ok (.iconst 1, 1) := by decide +kernel
theorem dX0_between_69 : decode cX0_between 69 = .ok (.iload 9, 2) := by decide +kernel
theorem dX0_between_71 : decode cX0_between 71 = .ok (.iload 5, 2) := by decide +kernel
theorem dX0_between_73 : decode cX0_between 73 = .ok (.invokestatic 69, 3) := by decide +kernel
theorem dX0_between_76 : decode cX0_between 76 = .ok (.ifCond .eq 6, 3) := by decide +kernel
theorem dX0_between_79 : decode cX0_between 79 = .ok (.iinc 6 1, 3) := by decide +kernel
theorem dX0_between_82 : decode cX0_between 82 = .ok (.iconst 0, 1) := by decide +kernel
theorem dX0_between_83 : decode cX0_between 83 = .ok (.iload 9, 2) := by decide +kernel
theorem dX0_between_85 : decode cX0_between 85 = .ok (.iload 4, 2) := by decide +kernel
theorem dX0_between_87 : decode cX0_between 87 = .ok (.invokestatic 69, 3) := by decide +kernel
theorem dX0_between_90 : decode cX0_between 90 = .ok (.ifCond .ne 14, 3) := by decide +kernel
theorem dX0_between_93 : decode cX0_between 93 = .ok (.iconst 2, 1) := by decide +kernel
theorem dX0_between_94 : decode cX0_between 94 = .ok (.iload 9, 2) := by decide +kernel
theorem dX0_between_96 : decode cX0_between 96 = .ok (.iload 5, 2) := by decide +kernel
theorem dX0_between_98 : decode cX0_between 98 = .ok (.invokestatic 69, 3) := by decide +kernel
theorem dX0_between_101 : decode cX0_between 101 = .ok (.ifCond .eq 6, 3) := by decide +kernel
theorem dX0_between_104 : decode cX0_between 104 = .ok (.iinc 7 1, 3) := by decide +kernel
theorem dX0_between_107 : decode cX0_between 107 = .ok (.iinc 8 1, 3) := by decide +kernel
theorem dX0_between_110 : decode cX0_between 110 = .ok (.goto (-73), 3) := by decide +kernel
theorem dX0_between_113 : decode cX0_between 113 = .ok (.bipush 16, 2) := by decide +kernel
theorem dX0_between_115 : decode cX0_between 115 = .ok (.iload 6, 2) := by decide +kernel
theorem dX0_between_117 : decode cX0_between 117 = .ok (.imul, 1) := by decide +kernel
theorem dX0_between_118 : decode cX0_between 118 = .ok (.iload 7, 2) := by decide +kernel
theorem dX0_between_120 : decode cX0_between 120 = .ok (.iadd, 1) := by decide +kernel
theorem dX0_between_121 : decode cX0_between 121 = .ok (.ireturn, 1) := by decide +kernel
set_option maxRecDepth 20000 in
theorem ggX0_must_X0_needRow : GoodIn wsX0_must wsX0_needRow := goodIn_ca (goodIn_r _ [7, 8, 9] (by decide +kernel) (by decide +kernel)) (goodIn_sub (fun _ h => List.mem_cons_of_mem _ (List.mem_append_left _ (List.mem_append_right _ h))) (by decide +kernel))
set_option maxRecDepth 20000 in
theorem gX0_must_X0_needRow : GoodIn wsX0_must (va_wsS RX0 30 yX0_needRow wsX0_needRow) := goodIn_app (goodIn_of _ (by decide +kernel)) ggX0_must_X0_needRow
set_option maxRecDepth 20000 in
theorem ggX0_must_X0_needPlace : GoodIn wsX0_must wsX0_needPlace := goodIn_ca (goodIn_r _ [12, 8, 9] (by decide +kernel) (by decide +kernel)) (goodIn_sub (fun _ h => List.mem_cons_of_mem _ (List.mem_append_left _ (List.mem_append_right _ h))) (by decide +kernel))
set_option maxRecDepth 20000 in
theorem gX0_must_X0_needPlace : GoodIn wsX0_must (va_wsS RX0 34 yX0_needPlace wsX0_needPlace) := goodIn_app (goodIn_of _ (by decide +kernel)) ggX0_must_X0_needPlace
set_option maxRecDepth 20000 in
theorem ggX0_must_X0_needGate : GoodIn wsX0_must wsX0_needGate := goodIn_ca (goodIn_r _ [15, 8, 9] (by decide +kernel) (by decide +kernel)) (goodIn_sub (fun _ h => List.mem_cons_of_mem _ (List.mem_append_left _ (List.mem_append_right _ h))) (by decide +kernel))
set_option maxRecDepth 20000 in
theorem gX0_must_X0_needGate : GoodIn wsX0_must (va_wsS RX0 48 yX0_needGate wsX0_needGate) := goodIn_app (goodIn_of _ (by decide +kernel)) ggX0_must_X0_needGate
set_option maxRecDepth 20000 in
theorem ggX0_must_X0_needSign : GoodIn wsX0_must wsX0_needSign := goodIn_ca (goodIn_r _ [18, 19, 20] (by decide +kernel) (by decide +kernel)) (goodIn_sub (fun _ h => List.mem_cons_of_mem _ (List.mem_append_right _ h)) (by decide +kernel))
set_option maxRecDepth 20000 in
theorem gX0_must_X0_needSign : GoodIn wsX0_must (va_wsS RX0 63 yX0_needSign wsX0_needSign) := goodIn_app (goodIn_of _ (by decide +kernel)) ggX0_must_X0_needSign
set_option maxRecDepth 20000 in
theorem ggX0_must_X0_spot : GoodIn wsX0_must wsX0_spot := goodIn_r _ [23] (by decide +kernel) (by decide +kernel)
set_option maxRecDepth 20000 in
theorem gX0_must_X0_spot : GoodIn wsX0_must (va_wsS RX0 40 yX0_spot wsX0_spot) := goodIn_app (goodIn_of _ (by decide +kernel)) ggX0_must_X0_spot
set_option maxRecDepth 20000 in
theorem ggX0_must_X0_levelFor : GoodIn wsX0_must wsX0_levelFor := goodIn_r _ [27, 28, 29, 30, 6, 31, 32, 33, 34, 39, 40, 41, 42] (by decide +kernel) (by decide +kernel)
set_option maxRecDepth 20000 in
theorem gX0_must_X0_levelFor : GoodIn wsX0_must (wsV RX0 66 RX0 yX0_levelFor wsX0_levelFor) := goodIn_app (goodIn_of _ (by decide +kernel)) ggX0_must_X0_levelFor
set_option maxRecDepth 20000 in
theorem ggX0_must_X0_isTrue : GoodIn wsX0_must wsX0_isTrue := goodIn_r _ [37, 38] (by decide +kernel) (by decide +kernel)
set_option maxRecDepth 20000 in
theorem gX0_must_X0_isTrue : GoodIn wsX0_must (va_wsS RX0 69 yX0_isTrue wsX0_isTrue) := goodIn_app (goodIn_of _ (by decide +kernel)) ggX0_must_X0_isTrue
theorem dX0_must_0 : decode cX0_must 0 = .ok (.iload_n 1, 1) := by decide +kernel
theorem dX0_must_1 : decode cX0_must 1 = .ok (.invokestatic 30, 3) := by decide +kernel
theorem dX0_must_4 : decode cX0_must 4 = .ok (.iload_n 2, 1) := by decide +kernel
theorem dX0_must_5 : decode cX0_must 5 = .ok (.invokestatic 34, 3) := by decide +kernel
theorem dX0_must_8 : decode cX0_must 8 = .ok (.iload 4, 2) := by decide +kernel
theorem dX0_must_10 : decode cX0_must 10 = .ok (.invokestatic 48, 3) := by decide +kernel
theorem dX0_must_13 : decode cX0_must 13 = .ok (.iload_n 3, 1) := by decide +kernel
theorem dX0_must_14 : decode cX0_must 14 = .ok (.invokestatic 63, 3) := by decide +kernel
theorem dX0_must_17 : decode cX0_must 17 = .ok (.aload_n 0, 1) := by decide +kernel
theorem dX0_must_18 : decode cX0_must 18 = .ok (.getfield 9, 3) := by decide +kernel
theorem dX0_must_21 : decode cX0_must 21 = .ok (.iload_n 1, 1) := by decide +kernel
theorem dX0_must_22 : decode cX0_must 22 = .ok (.iload_n 2, 1) := by decide +kernel
theorem dX0_must_23 : decode cX0_must 23 = .ok (.invokestatic 40, 3) := by decide +kernel
theorem dX0_must_26 : decode cX0_must 26 = .ok (.iaload, 1) := by decide +kernel
theorem dX0_must_27 : decode cX0_must 27 = .ok (.istore 5, 2) := by decide +kernel
theorem dX0_must_29 : decode cX0_must 29 = .ok (.iload_n 3, 1) := by decide +kernel
theorem dX0_must_30 : decode cX0_must 30 = .ok (.iload 5, 2) := by decide +kernel
theorem dX0_must_32 : decode cX0_must 32 = .ok (.aload_n 0, 1) := by decide +kernel
theorem dX0_must_33 : decode cX0_must 33 = .ok (.iload 4, 2) := by decide +kernel
theorem dX0_must_35 : decode cX0_must 35 = .ok (.iload_n 1, 1) := by decide +kernel
theorem dX0_must_36 : decode cX0_must 36 = .ok (.invokevirtual 66, 3) := by decide +kernel
theorem dX0_must_39 : decode cX0_must 39 = .ok (.invokestatic 69, 3) := by decide +kernel
theorem dX0_must_42 : decode cX0_must 42 = .ok (.ifCond .ne 13, 3) := by decide +kernel
theorem dX0_must_45 : decode cX0_must 45 = .ok (.new 73, 3) := by decide +kernel
theorem dX0_must_48 : decode cX0_must 48 = .ok (.dup, 1) := by decide +kernel
theorem dX0_must_49 : decode cX0_must 49 = .ok (.ldc 75, 2) := by decide +kernel
theorem dX0_must_51 : decode cX0_must 51 = .ok (.invokespecial 77, 3) := by decide +kernel
theorem dX0_must_54 : decode cX0_must 54 = .ok (.athrow, 1) := by decide +kernel
theorem dX0_must_55 : decode cX0_must 55 = .ok (.iload 5, 2) := by decide +kernel
theorem dX0_must_57 : decode cX0_must 57 = .ok (.ireturn, 1) := by decide +kernel
set_option maxRecDepth 20000 in
theorem ggX0_watch_X0_needGate : GoodIn wsX0_watch wsX0_needGate := goodIn_ca (goodIn_r _ [6, 7, 8] (by decide +kernel) (by decide +kernel)) (goodIn_sub (fun _ h => List.mem_cons_of_mem _ (List.mem_append_right _ h)) (by decide +kernel))
set_option maxRecDepth 20000 in
theorem gX0_watch_X0_needGate : GoodIn wsX0_watch (va_wsS RX0 48 yX0_needGate wsX0_needGate) := goodIn_app (goodIn_of _ (by decide +kernel)) ggX0_watch_X0_needGate
set_option maxRecDepth 20000 in
theorem ggX0_watch_X0_needRow : GoodIn wsX0_watch wsX0_needRow := goodIn_ca (goodIn_r _ [11, 7, 8] (by decide +kernel) (by decide +kernel)) (goodIn_sub (fun _ h => List.mem_cons_of_mem _ (List.mem_append_right _ h)) (by decide +kernel))
set_option maxRecDepth 20000 in
theorem gX0_watch_X0_needRow : GoodIn wsX0_watch (va_wsS RX0 30 yX0_needRow wsX0_needRow) := goodIn_app (goodIn_of _ (by decide +kernel)) ggX0_watch_X0_needRow
set_option maxRecDepth 20000 in
theorem ggX0_watch_X0_levelFor : GoodIn wsX0_watch wsX0_levelFor := goodIn_r _ [15, 16, 17, 18, 5, 19, 20, 21, 22, 33, 34, 35, 36] (by decide +kernel) (by decide +kernel)
set_option maxRecDepth 20000 in
theorem gX0_watch_X0_levelFor : GoodIn wsX0_watch (wsV RX0 66 RX0 yX0_levelFor wsX0_levelFor) := goodIn_app (goodIn_of _ (by decide +kernel)) ggX0_watch_X0_levelFor
set_option maxRecDepth 20000 in
theorem ggX0_watch_X0_spot : GoodIn wsX0_watch wsX0_spot := goodIn_r _ [25] (by decide +kernel) (by decide +kernel)
set_option maxRecDepth 20000 in
theorem gX0_watch_X0_spot : GoodIn wsX0_watch (va_wsS RX0 40 yX0_spot wsX0_spot) := goodIn_app (goodIn_of _ (by decide +kernel)) ggX0_watch_X0_spot
set_option maxRecDepth 20000 in
theorem ggX0_watch_X0_opens : GoodIn wsX0_watch wsX0_opens := goodIn_r _ [28, 29, 30, 5, 31, 32] (by decide +kernel) (by decide +kernel)
set_option maxRecDepth 20000 in
theorem gX0_watch_X0_opens : GoodIn wsX0_watch (va_wsS RX0 80 yX0_opens wsX0_opens) := goodIn_app (goodIn_of _ (by decide +kernel)) ggX0_watch_X0_opens
theorem dX0_watch_0 : decode cX0_watch 0 = .ok (.iload_n 1, 1) := by decide +kernel
theorem dX0_watch_1 : decode cX0_watch 1 = .ok (.invokestatic 48, 3) := by decide +kernel
theorem dX0_watch_4 : decode cX0_watch 4 = .ok (.iload_n 2, 1) := by decide +kernel
theorem dX0_watch_5 : decode cX0_watch 5 = .ok (.invokestatic 30, 3) := by decide +kernel
theorem dX0_watch_8 : decode cX0_watch 8 = .ok (.aload_n 0, 1) := by decide +kernel
theorem dX0_watch_9 : decode cX0_watch 9 = .ok (.iload_n 1, 1) := by decide +kernel
theorem dX0_watch_10 : decode cX0_watch 10 = .ok (.iload_n 2, 1) := by decide +kernel
theorem dX0_watch_11 : decode cX0_watch 11 = .ok (.invokevirtual 66, 3) := by decide +kernel
theorem dX0_watch_14 : decode cX0_watch 14 = .ok (.istore 4, 2) := by decide +kernel
theorem dX0_watch_16 : decode cX0_watch 16 = .ok (.iconst 0, 1) := by decide +kernel
theorem dX0_watch_17 : decode cX0_watch 17 = .ok (.istore 5, 2) := by decide +kernel
theorem dX0_watch_19 : decode cX0_watch 19 = .ok (.iconst 0, 1) := by decide +kernel
theorem dX0_watch_20 : decode cX0_watch 20 = .ok (.istore 6, 2) := by decide +kernel
theorem dX0_watch_22 : decode cX0_watch 22 = .ok (.iload 6, 2) := by decide +kernel
theorem dX0_watch_24 : decode cX0_watch 24 = .ok (.bipush 12, 2) := by decide +kernel
theorem dX0_watch_26 : decode cX0_watch 26 = .ok (.if_icmp .ge 50, 3) := by decide +kernel
theorem dX0_watch_29 : decode cX0_watch 29 = .ok (.aload_n 0, 1) := by decide +kernel
theorem dX0_watch_30 : decode cX0_watch 30 = .ok (.getfield 9, 3) := by decide +kernel
theorem dX0_watch_33 : decode cX0_watch 33 = .ok (.iload_n 2, 1) := by decide +kernel
theorem dX0_watch_34 : decode cX0_watch 34 = .ok (.iload 6, 2) := by decide +kernel
theorem dX0_watch_36 : decode cX0_watch 36 = .ok (.invokestatic 40, 3) := by decide +kernel
theorem dX0_watch_39 : decode cX0_watch 39 = .ok (.iaload, 1) := by decide +kernel
theorem dX0_watch_40 : decode cX0_watch 40 = .ok (.iload 4, 2) := by decide +kernel
theorem dX0_watch_42 : decode cX0_watch 42 = .ok (.iload_n 3, 1) := by decide +kernel
theorem dX0_watch_43 : decode cX0_watch 43 = .ok (.invokestatic 80, 3) := by decide +kernel
theorem dX0_watch_46 : decode cX0_watch 46 = .ok (.istore 7, 2) := by decide +kernel
theorem dX0_watch_48 : decode cX0_watch 48 = .ok (.iload 7, 2) := by decide +kernel
theorem dX0_watch_50 : decode cX0_watch 50 = .ok (.aload_n 0, 1) := by decide +kernel
theorem dX0_watch_51 : decode cX0_watch 51 = .ok (.getfield 16, 3) := by decide +kernel
theorem dX0_watch_54 : decode cX0_watch 54 = .ok (.iload_n 1, 1) := by decide +kernel
theorem dX0_watch_55 : decode cX0_watch 55 = .ok (.baload, 1) := by decide +kernel
theorem dX0_watch_56 : decode cX0_watch 56 = .ok (.if_icmp .eq 14, 3) := by decide +kernel
theorem dX0_watch_59 : decode cX0_watch 59 = .ok (.aload_n 0, 1) := by decide +kernel
theorem dX0_watch_60 : decode cX0_watch 60 = .ok (.getfield 16, 3) := by decide +kernel
theorem dX0_watch_63 : decode cX0_watch 63 = .ok (.iload_n 1, 1) := by decide +kernel
theorem dX0_watch_64 : decode cX0_watch 64 = .ok (.iload 7, 2) := by decide +kernel
theorem dX0_watch_66 : decode cX0_watch 66 = .ok (.bastore, 1) := by decide +kernel
theorem dX0_watch_67 : decode cX0_watch 67 = .ok (.iinc 5 1, 3) := by decide +kernel
theorem dX0_watch_70 : decode cX0_watch 70 = .ok (.iinc 6 1, 3) := by decide +kernel
theorem dX0_watch_73 : decode cX0_watch 73 = .ok (.goto (-51), 3) := by decide +kernel
theorem dX0_watch_76 : decode cX0_watch 76 = .ok (.iload 5, 2) := by decide +kernel
theorem dX0_watch_78 : decode cX0_watch 78 = .ok (.ireturn, 1) := by decide +kernel
set_option maxRecDepth 20000 in
theorem ggX0_isOpen_X0_needGate : GoodIn wsX0_isOpen wsX0_needGate := goodIn_ca (goodIn_r _ [5, 6, 7] (by decide +kernel) (by decide +kernel)) (goodIn_sub (fun _ h => List.mem_cons_of_mem _ (List.mem_append_right _ h)) (by decide +kernel))
set_option maxRecDepth 20000 in
theorem gX0_isOpen_X0_needGate : GoodIn wsX0_isOpen (va_wsS RX0 48 yX0_needGate wsX0_needGate) := goodIn_app (goodIn_of _ (by decide +kernel)) ggX0_isOpen_X0_needGate
theorem dX0_isOpen_0 : decode cX0_isOpen 0 = .ok (.iload_n 1, 1) := by decide +kernel
theorem dX0_isOpen_1 : decode cX0_isOpen 1 = .ok (.invokestatic 48, 3) := by decide +kernel
theorem dX0_isOpen_4 : decode cX0_isOpen 4 = .ok (.aload_n 0, 1) := by decide +kernel
theorem dX0_isOpen_5 : decode cX0_isOpen 5 = .ok (.getfield 16, 3) := by decide +kernel
theorem dX0_isOpen_8 : decode cX0_isOpen 8 = .ok (.iload_n 1, 1) := by decide +kernel
theorem dX0_isOpen_9 : decode cX0_isOpen 9 = .ok (.baload, 1) := by decide +kernel
theorem dX0_isOpen_10 : decode cX0_isOpen 10 = .ok (.ireturn, 1) := by decide +kernel
set_option maxRecDepth 20000 in
theorem ggX0_climb_X0_needRow : GoodIn wsX0_climb wsX0_needRow := goodIn_ca (goodIn_r _ [4, 5, 6] (by decide +kernel) (by decide +kernel)) (goodIn_sub (fun _ h => List.mem_cons_of_mem _ (List.mem_append_left _ (List.mem_append_right _ h))) (by decide +kernel))
set_option maxRecDepth 20000 in
theorem gX0_climb_X0_needRow : GoodIn wsX0_climb (va_wsS RX0 30 yX0_needRow wsX0_needRow) := goodIn_app (goodIn_of _ (by decide +kernel)) ggX0_climb_X0_needRow
set_option maxRecDepth 20000 in
theorem ggX0_climb_X0_needPlace : GoodIn wsX0_climb wsX0_needPlace := goodIn_ca (goodIn_r _ [9, 5, 6] (by decide +kernel) (by decide +kernel)) (goodIn_sub (fun _ h => List.mem_cons_of_mem _ (List.mem_append_left _ (List.mem_append_right _ h))) (by decide +kernel))
set_option maxRecDepth 20000 in
theorem gX0_climb_X0_needPlace : GoodIn wsX0_climb (va_wsS RX0 34 yX0_needPlace wsX0_needPlace) := goodIn_app (goodIn_of _ (by decide +kernel)) ggX0_climb_X0_needPlace
set_option maxRecDepth 20000 in
theorem ggX0_climb_X0_needSign : GoodIn wsX0_climb wsX0_needSign := goodIn_ca (goodIn_r _ [12, 13, 14] (by decide +kernel) (by decide +kernel)) (goodIn_sub (fun _ h => List.mem_cons_of_mem _ (List.mem_append_right _ h)) (by decide +kernel))
set_option maxRecDepth 20000 in
theorem gX0_climb_X0_needSign : GoodIn wsX0_climb (va_wsS RX0 63 yX0_needSign wsX0_needSign) := goodIn_app (goodIn_of _ (by decide +kernel)) ggX0_climb_X0_needSign
set_option maxRecDepth 20000 in
theorem ggX0_climb_X0_walk : GoodIn wsX0_climb wsX0_walk := goodIn_r _ [18, 19, 20, 21, 3, 22, 23, 24, 25, 26, 27, 28, 29, 30, 31, 32, 33, 34] (by decide +kernel) (by decide +kernel)
set_option maxRecDepth 20000 in
theorem gX0_climb_X0_walk : GoodIn wsX0_climb (wsV RX0 84 RX0 yX0_walk wsX0_walk) := goodIn_app (goodIn_of _ (by decide +kernel)) ggX0_climb_X0_walk
theorem dX0_climb_0 : decode cX0_climb 0 = .ok (.iload_n 1, 1) := by decide +kernel
theorem dX0_climb_1 : decode cX0_climb 1 = .ok (.invokestatic 30, 3) := by decide +kernel
theorem dX0_climb_4 : decode cX0_climb 4 = .ok (.iload_n 2, 1) := by decide +kernel
theorem dX0_climb_5 : decode cX0_climb 5 = .ok (.invokestatic 34, 3) := by decide +kernel
theorem dX0_climb_8 : decode cX0_climb 8 = .ok (.iload_n 3, 1) := by decide +kernel
theorem dX0_climb_9 : decode cX0_climb 9 = .ok (.invokestatic 63, 3) := by decide +kernel
theorem dX0_climb_12 : decode cX0_climb 12 = .ok (.aload_n 0, 1) := by decide +kernel
theorem dX0_climb_13 : decode cX0_climb 13 = .ok (.iload_n 1, 1) := by decide +kernel
theorem dX0_climb_14 : decode cX0_climb 14 = .ok (.iload_n 2, 1) := by decide +kernel
theorem dX0_climb_15 : decode cX0_climb 15 = .ok (.iload_n 3, 1) := by decide +kernel
theorem dX0_climb_16 : decode cX0_climb 16 = .ok (.iconst 1, 1) := by decide +kernel
theorem dX0_climb_17 : decode cX0_climb 17 = .ok (.invokevirtual 84, 3) := by decide +kernel
theorem dX0_climb_20 : decode cX0_climb 20 = .ok (.ireturn, 1) := by decide +kernel
set_option maxRecDepth 20000 in
theorem ggX0_drift_X0_needRow : GoodIn wsX0_drift wsX0_needRow := goodIn_ca (goodIn_r _ [4, 5, 6] (by decide +kernel) (by decide +kernel)) (goodIn_sub (fun _ h => List.mem_cons_of_mem _ (List.mem_append_left _ (List.mem_append_right _ h))) (by decide +kernel))
set_option maxRecDepth 20000 in
theorem gX0_drift_X0_needRow : GoodIn wsX0_drift (va_wsS RX0 30 yX0_needRow wsX0_needRow) := goodIn_app (goodIn_of _ (by decide +kernel)) ggX0_drift_X0_needRow
set_option maxRecDepth 20000 in
theorem ggX0_drift_X0_needPlace : GoodIn wsX0_drift wsX0_needPlace := goodIn_ca (goodIn_r _ [9, 5, 6] (by decide +kernel) (by decide +kernel)) (goodIn_sub (fun _ h => List.mem_cons_of_mem _ (List.mem_append_left _ (List.mem_append_right _ h))) (by decide +kernel))
set_option maxRecDepth 20000 in
theorem gX0_drift_X0_needPlace : GoodIn wsX0_drift (va_wsS RX0 34 yX0_needPlace wsX0_needPlace) := goodIn_app (goodIn_of _ (by decide +kernel)) ggX0_drift_X0_needPlace
set_option maxRecDepth 20000 in
theorem ggX0_drift_X0_needSign : GoodIn wsX0_drift wsX0_needSign := goodIn_ca (goodIn_r _ [12, 13, 14] (by decide +kernel) (by decide +kernel)) (goodIn_sub (fun _ h => List.mem_cons_of_mem _ (List.mem_append_right _ h)) (by decide +kernel))
set_option maxRecDepth 20000 in
theorem gX0_drift_X0_needSign : GoodIn wsX0_drift (va_wsS RX0 63 yX0_needSign wsX0_needSign) := goodIn_app (goodIn_of _ (by decide +kernel)) ggX0_drift_X0_needSign
set_option maxRecDepth 20000 in
theorem ggX0_drift_X0_walk : GoodIn wsX0_drift wsX0_walk := goodIn_r _ [18, 19, 20, 21, 3, 22, 23, 24, 25, 26, 27, 28, 29, 30, 31, 32, 33, 34] (by decide +kernel) (by decide +kernel)
set_option maxRecDepth 20000 in
theorem gX0_drift_X0_walk : GoodIn wsX0_drift (wsV RX0 84 RX0 yX0_walk wsX0_walk) := goodIn_app (goodIn_of _ (by decide +kernel)) ggX0_drift_X0_walk
theorem dX0_drift_0 : decode cX0_drift 0 = .ok (.iload_n 1, 1) := by decide +kernel
theorem dX0_drift_1 : decode cX0_drift 1 = .ok (.invokestatic 30, 3) := by decide +kernel
theorem dX0_drift_4 : decode cX0_drift 4 = .ok (.iload_n 2, 1) := by decide +kernel
theorem dX0_drift_5 : decode cX0_drift 5 = .ok (.invokestatic 34, 3) := by decide +kernel
theorem dX0_drift_8 : decode cX0_drift 8 = .ok (.iload_n 3, 1) := by decide +kernel
theorem dX0_drift_9 : decode cX0_drift 9 = .ok (.invokestatic 63, 3) := by decide +kernel
theorem dX0_drift_12 : decode cX0_drift 12 = .ok (.aload_n 0, 1) := by decide +kernel
theorem dX0_drift_13 : decode cX0_drift 13 = .ok (.iload_n 1, 1) := by decide +kernel
theorem dX0_drift_14 : decode cX0_drift 14 = .ok (.iload_n 2, 1) := by decide +kernel
theorem dX0_drift_15 : decode cX0_drift 15 = .ok (.iload_n 3, 1) := by decide +kernel
theorem dX0_drift_16 : decode cX0_drift 16 = .ok (.iconst 0, 1) := by decide +kernel
theorem dX0_drift_17 : decode cX0_drift 17 = .ok (.invokevirtual 84, 3) := by decide +kernel
theorem dX0_drift_20 : decode cX0_drift 20 = .ok (.ireturn, 1) := by decide +kernel
set_option maxRecDepth 20000 in
theorem ggX0_pick_X0_needRow : GoodIn wsX0_pick wsX0_needRow := goodIn_ca (goodIn_r _ [5, 6, 7] (by decide +kernel) (by decide +kernel)) (goodIn_sub (fun _ h => List.mem_cons_of_mem _ (List.mem_append_left _ (List.mem_append_right _ h))) (by decide +kernel))
set_option maxRecDepth 20000 in
theorem gX0_pick_X0_needRow : GoodIn wsX0_pick (va_wsS RX0 30 yX0_needRow wsX0_needRow) := goodIn_app (goodIn_of _ (by decide +kernel)) ggX0_pick_X0_needRow
set_option maxRecDepth 20000 in
theorem ggX0_pick_X0_needSign : GoodIn wsX0_pick wsX0_needSign := goodIn_ca (goodIn_r _ [10, 11, 12] (by decide +kernel) (by decide +kernel)) (goodIn_sub (fun _ h => List.mem_cons_of_mem _ (List.mem_append_right _ h)) (by decide +kernel))
set_option maxRecDepth 20000 in
theorem gX0_pick_X0_needSign : GoodIn wsX0_pick (va_wsS RX0 63 yX0_needSign wsX0_needSign) := goodIn_app (goodIn_of _ (by decide +kernel)) ggX0_pick_X0_needSign
set_option maxRecDepth 20000 in
theorem ggX0_pick_X0_spot : GoodIn wsX0_pick wsX0_spot := goodIn_r _ [15] (by decide +kernel) (by decide +kernel)
set_option maxRecDepth 20000 in
theorem gX0_pick_X0_spot : GoodIn wsX0_pick (va_wsS RX0 40 yX0_spot wsX0_spot) := goodIn_app (goodIn_of _ (by decide +kernel)) ggX0_pick_X0_spot
set_option maxRecDepth 20000 in
theorem ggX0_pick_X0_isTrue : GoodIn wsX0_pick wsX0_isTrue := goodIn_r _ [18, 19] (by decide +kernel) (by decide +kernel)
set_option maxRecDepth 20000 in
theorem gX0_pick_X0_isTrue : GoodIn wsX0_pick (va_wsS RX0 69 yX0_isTrue wsX0_isTrue) := goodIn_app (goodIn_of _ (by decide +kernel)) ggX0_pick_X0_isTrue
theorem dX0_pick_0 : decode cX0_pick 0 = .ok (.iload_n 1, 1) := by decide +kernel
theorem dX0_pick_1 : decode cX0_pick 1 = .ok (.invokestatic 30, 3) := by decide +kernel
theorem dX0_pick_4 : decode cX0_pick 4 = .ok (.iload_n 2, 1) := by decide +kernel
theorem dX0_pick_5 : decode cX0_pick 5 = .ok (.invokestatic 63, 3) := by decide +kernel
theorem dX0_pick_8 : decode cX0_pick 8 = .ok (.iconst 0, 1) := by decide +kernel
theorem dX0_pick_9 : decode cX0_pick 9 = .ok (.istore_n 3, 1) := by decide +kernel
theorem dX0_pick_10 : decode cX0_pick 10 = .ok (.iconst 1, 1) := by decide +kernel
theorem dX0_pick_11 : decode cX0_pick 11 = .ok (.istore 4, 2) := by decide +kernel
theorem dX0_pick_13 : decode cX0_pick 13 = .ok (.iload 4, 2) := by decide +kernel
theorem dX0_pick_15 : decode cX0_pick 15 = .ok (.bipush 12, 2) := by decide +kernel
theorem dX0_pick_17 : decode cX0_pick 17 = .ok (.if_icmp .ge 40, 3) := by decide +kernel
theorem dX0_pick_20 : decode cX0_pick 20 = .ok (.iload_n 2, 1) := by decide +kernel
theorem dX0_pick_21 : decode cX0_pick 21 = .ok (.aload_n 0, 1) := by decide +kernel
theorem dX0_pick_22 : decode cX0_pick 22 = .ok (.getfield 9, 3) := by decide +kernel
theorem dX0_pick_25 : decode cX0_pick 25 = .ok (.iload_n 1, 1) := by decide +kernel
theorem dX0_pick_26 : decode cX0_pick 26 = .ok (.iload 4, 2) := by decide +kernel
theorem dX0_pick_28 : decode cX0_pick 28 = .ok (.invokestatic 40, 3) := by decide +kernel
theorem dX0_pick_31 : decode cX0_pick 31 = .ok (.iaload, 1) := by decide +kernel
theorem dX0_pick_32 : decode cX0_pick 32 = .ok (.aload_n 0, 1) := by decide +kernel
theorem dX0_pick_33 : decode cX0_pick 33 = .ok (.getfield 9, 3) := by decide +kernel
theorem dX0_pick_36 : decode cX0_pick 36 = .ok (.iload_n 1, 1) := by decide +kernel
theorem dX0_pick_37 : decode cX0_pick 37 = .ok (.iload_n 3, 1) := by decide +kernel
theorem dX0_pick_38 : decode cX0_pick 38 = .ok (.invokestatic 40, 3) := by decide +kernel
theorem dX0_pick_41 : decode cX0_pick 41 = .ok (.iaload, 1) := by decide +kernel
theorem dX0_pick_42 : decode cX0_pick 42 = .ok (.invokestatic 69, 3) := by decide +kernel
theorem dX0_pick_45 : decode cX0_pick 45 = .ok (.ifCond .eq 6, 3) := by decide +kernel
theorem dX0_pick_48 : decode cX0_pick 48 = .ok (.iload 4, 2) := by decide +kernel
theorem dX0_pick_50 : decode cX0_pick 50 = .ok (.istore_n 3, 1) := by decide +kernel
theorem dX0_pick_51 : decode cX0_pick 51 = .ok (.iinc 4 1, 3) := by decide +kernel
theorem dX0_pick_54 : decode cX0_pick 54 = .ok (.goto (-41), 3) := by decide +kernel
theorem dX0_pick_57 : decode cX0_pick 57 = .ok (.iload_n 3, 1) := by decide +kernel
theorem dX0_pick_58 : decode cX0_pick 58 = .ok (.ireturn, 1) := by decide +kernel
set_option maxRecDepth 20000 in
theorem ggX0_keep_X0_needRow : GoodIn wsX0_keep wsX0_needRow := goodIn_ca (goodIn_r _ [5, 6, 7] (by decide +kernel) (by decide +kernel)) (goodIn_sub (fun _ h => List.mem_cons_of_mem _ (List.mem_append_left _ (List.mem_append_right _ h))) (by decide +kernel))
set_option maxRecDepth 20000 in
theorem gX0_keep_X0_needRow : GoodIn wsX0_keep (va_wsS RX0 30 yX0_needRow wsX0_needRow) := goodIn_app (goodIn_of _ (by decide +kernel)) ggX0_keep_X0_needRow
set_option maxRecDepth 20000 in
theorem ggX0_keep_X0_needSign : GoodIn wsX0_keep wsX0_needSign := goodIn_ca (goodIn_r _ [10, 11, 12] (by decide +kernel) (by decide +kernel)) (goodIn_sub (fun _ h => List.mem_cons_of_mem _ (List.mem_append_right _ h)) (by decide +kernel))
set_option maxRecDepth 20000 in
theorem gX0_keep_X0_needSign : GoodIn wsX0_keep (va_wsS RX0 63 yX0_needSign wsX0_needSign) := goodIn_app (goodIn_of _ (by decide +kernel)) ggX0_keep_X0_needSign
set_option maxRecDepth 20000 in
theorem ggX0_keep_X0_isTrueOfNext : GoodIn wsX0_keep wsX0_isTrueOfNext := goodIn_r _ [16, 17, 18, 19, 4, 20, 21, 22, 23, 24, 32, 33, 34, 35] (by decide +kernel) (by decide +kernel)
set_option maxRecDepth 20000 in
theorem gX0_keep_X0_isTrueOfNext : GoodIn wsX0_keep (wsV RX0 88 RX0 yX0_isTrueOfNext wsX0_isTrueOfNext) := goodIn_app (goodIn_of _ (by decide +kernel)) ggX0_keep_X0_isTrueOfNext
set_option maxRecDepth 20000 in
theorem ggX0_keep_J6_bitCount_0f7a4 : GoodIn wsX0_keep wsJ6_bitCount_0f7a4 := goodIn_r _ [28, 29, 30, 31] (by decide +kernel) (by decide +kernel)
set_option maxRecDepth 20000 in
theorem gX0_keep_J6_bitCount_0f7a4 : GoodIn wsX0_keep (va_wsS RX0 91 yJ6_bitCount_0f7a4 wsJ6_bitCount_0f7a4) := goodIn_app (goodIn_of _ (by decide +kernel)) ggX0_keep_J6_bitCount_0f7a4
theorem dX0_keep_0 : decode cX0_keep 0 = .ok (.iload_n 1, 1) := by decide +kernel
theorem dX0_keep_1 : decode cX0_keep 1 = .ok (.invokestatic 30, 3) := by decide +kernel
theorem dX0_keep_4 : decode cX0_keep 4 = .ok (.iload_n 2, 1) := by decide +kernel
theorem dX0_keep_5 : decode cX0_keep 5 = .ok (.invokestatic 63, 3) := by decide +kernel
theorem dX0_keep_8 : decode cX0_keep 8 = .ok (.iconst 0, 1) := by decide +kernel
theorem dX0_keep_9 : decode cX0_keep 9 = .ok (.istore_n 3, 1) := by decide +kernel
theorem dX0_keep_10 : decode cX0_keep 10 = .ok (.iconst 0, 1) := by decide +kernel
theorem dX0_keep_11 : decode cX0_keep 11 = .ok (.istore 4, 2) := by decide +kernel
theorem dX0_keep_13 : decode cX0_keep 13 = .ok (.iload 4, 2) := by decide +kernel
theorem dX0_keep_15 : decode cX0_keep 15 = .ok (.bipush 11, 2) := by decide +kernel
theorem dX0_keep_17 : decode cX0_keep 17 = .ok (.if_icmp .ge 27, 3) := by decide +kernel
theorem dX0_keep_20 : decode cX0_keep 20 = .ok (.aload_n 0, 1) := by decide +kernel
theorem dX0_keep_21 : decode cX0_keep 21 = .ok (.iload_n 1, 1) := by decide +kernel
theorem dX0_keep_22 : decode cX0_keep 22 = .ok (.iload 4, 2) := by decide +kernel
theorem dX0_keep_24 : decode cX0_keep 24 = .ok (.iload_n 2, 1) := by decide +kernel
theorem dX0_keep_25 : decode cX0_keep 25 = .ok (.invokevirtual 88, 3) := by decide +kernel
theorem dX0_keep_28 : decode cX0_keep 28 = .ok (.ifCond .eq 10, 3) := by decide +kernel
theorem dX0_keep_31 : decode cX0_keep 31 = .ok (.iload_n 3, 1) := by decide +kernel
theorem dX0_keep_32 : decode cX0_keep 32 = .ok (.iconst 1, 1) := by decide +kernel
theorem dX0_keep_33 : decode cX0_keep 33 = .ok (.iload 4, 2) := by decide +kernel
theorem dX0_keep_35 : decode cX0_keep 35 = .ok (.ishl, 1) := by decide +kernel
theorem dX0_keep_36 : decode cX0_keep 36 = .ok (.ior, 1) := by decide +kernel
theorem dX0_keep_37 : decode cX0_keep 37 = .ok (.istore_n 3, 1) := by decide +kernel
theorem dX0_keep_38 : decode cX0_keep 38 = .ok (.iinc 4 1, 3) := by decide +kernel
theorem dX0_keep_41 : decode cX0_keep 41 = .ok (.goto (-28), 3) := by decide +kernel
theorem dX0_keep_44 : decode cX0_keep 44 = .ok (.aload_n 0, 1) := by decide +kernel
theorem dX0_keep_45 : decode cX0_keep 45 = .ok (.getfield 20, 3) := by decide +kernel
theorem dX0_keep_48 : decode cX0_keep 48 = .ok (.iload_n 1, 1) := by decide +kernel
theorem dX0_keep_49 : decode cX0_keep 49 = .ok (.iload_n 3, 1) := by decide +kernel
theorem dX0_keep_50 : decode cX0_keep 50 = .ok (.iastore, 1) := by decide +kernel
theorem dX0_keep_51 : decode cX0_keep 51 = .ok (.iload_n 3, 1) := by decide +kernel
theorem dX0_keep_52 : decode cX0_keep 52 = .ok (.invokestatic 91, 3) := by decide +kernel
theorem dX0_keep_55 : decode cX0_keep 55 = .ok (.ireturn, 1) := by decide +kernel
set_option maxRecDepth 20000 in
theorem ggX0_notes_X0_needRow : GoodIn wsX0_notes wsX0_needRow := goodIn_ca (goodIn_r _ [5, 6, 7] (by decide +kernel) (by decide +kernel)) (goodIn_sub (fun _ h => List.mem_cons_of_mem _ (List.mem_append_right _ h)) (by decide +kernel))
set_option maxRecDepth 20000 in
theorem gX0_notes_X0_needRow : GoodIn wsX0_notes (va_wsS RX0 30 yX0_needRow wsX0_needRow) := goodIn_app (goodIn_of _ (by decide +kernel)) ggX0_notes_X0_needRow
theorem dX0_notes_0 : decode cX0_notes 0 = .ok (.iload_n 1, 1) := by decide +kernel
theorem dX0_notes_1 : decode cX0_notes 1 = .ok (.invokestatic 30, 3) := by decide +kernel
theorem dX0_notes_4 : decode cX0_notes 4 = .ok (.aload_n 0, 1) := by decide +kernel
theorem dX0_notes_5 : decode cX0_notes 5 = .ok (.getfield 20, 3) := by decide +kernel
theorem dX0_notes_8 : decode cX0_notes 8 = .ok (.iload_n 1, 1) := by decide +kernel
theorem dX0_notes_9 : decode cX0_notes 9 = .ok (.iaload, 1) := by decide +kernel
theorem dX0_notes_10 : decode cX0_notes 10 = .ok (.ireturn, 1) := by decide +kernel
set_option maxRecDepth 20000 in
theorem ggX0_gaps_X0_needRow : GoodIn wsX0_gaps wsX0_needRow := goodIn_ca (goodIn_r _ [4, 5, 6] (by decide +kernel) (by decide +kernel)) (goodIn_sub (fun _ h => List.mem_cons_of_mem _ (List.mem_append_right _ h)) (by decide +kernel))
set_option maxRecDepth 20000 in
theorem gX0_gaps_X0_needRow : GoodIn wsX0_gaps (va_wsS RX0 30 yX0_needRow wsX0_needRow) := goodIn_app (goodIn_of _ (by decide +kernel)) ggX0_gaps_X0_needRow
set_option maxRecDepth 20000 in
theorem ggX0_gaps_X0_countMissing : GoodIn wsX0_gaps wsX0_countMissing := goodIn_r _ [10, 11, 12, 13, 3, 14, 15, 16, 17, 18, 19, 20, 21, 22] (by decide +kernel) (by decide +kernel)
set_option maxRecDepth 20000 in
theorem gX0_gaps_X0_countMissing : GoodIn wsX0_gaps (wsV RX0 59 RX0 yX0_countMissing wsX0_countMissing) := goodIn_app (goodIn_of _ (by decide +kernel)) ggX0_gaps_X0_countMissing
theorem dX0_gaps_0 : decode cX0_gaps 0 = .ok (.iload_n 1, 1) := by decide +kernel
theorem dX0_gaps_1 : decode cX0_gaps 1 = .ok (.invokestatic 30, 3) := by decide +kernel
theorem dX0_gaps_4 : decode cX0_gaps 4 = .ok (.aload_n 0, 1) := by decide +kernel
theorem dX0_gaps_5 : decode cX0_gaps 5 = .ok (.iload_n 1, 1) := by decide +kernel
theorem dX0_gaps_6 : decode cX0_gaps 6 = .ok (.invokevirtual 59, 3) := by decide +kernel
theorem dX0_gaps_9 : decode cX0_gaps 9 = .ok (.ireturn, 1) := by decide +kernel
set_option maxRecDepth 20000 in
theorem ggX0_settle_X0_needRow : GoodIn wsX0_settle wsX0_needRow := goodIn_ca (goodIn_r _ [4, 5, 6] (by decide +kernel) (by decide +kernel)) (goodIn_sub (fun _ h => List.mem_cons_of_mem _ (List.mem_append_left _ (List.mem_append_right _ h))) (by decide +kernel))
set_option maxRecDepth 20000 in
theorem gX0_settle_X0_needRow : GoodIn wsX0_settle (va_wsS RX0 30 yX0_needRow wsX0_needRow) := goodIn_app (goodIn_of _ (by decide +kernel)) ggX0_settle_X0_needRow
set_option maxRecDepth 20000 in
theorem ggX0_settle_X0_needSign : GoodIn wsX0_settle wsX0_needSign := goodIn_ca (goodIn_r _ [9, 10, 11] (by decide +kernel) (by decide +kernel)) (goodIn_sub (fun _ h => List.mem_cons_of_mem _ (List.mem_append_right _ h)) (by decide +kernel))
set_option maxRecDepth 20000 in
theorem gX0_settle_X0_needSign : GoodIn wsX0_settle (va_wsS RX0 63 yX0_needSign wsX0_needSign) := goodIn_app (goodIn_of _ (by decide +kernel)) ggX0_settle_X0_needSign
set_option maxRecDepth 20000 in
theorem ggX0_settle_X0_moveLeft : GoodIn wsX0_settle wsX0_moveLeft := goodIn_r _ [15, 16, 17, 18, 3, 19, 20, 21, 22, 23, 24, 25, 26, 27] (by decide +kernel) (by decide +kernel)
set_option maxRecDepth 20000 in
theorem gX0_settle_X0_moveLeft : GoodIn wsX0_settle (wsV RX0 96 RX0 yX0_moveLeft wsX0_moveLeft) := goodIn_app (goodIn_of _ (by decide +kernel)) ggX0_settle_X0_moveLeft
theorem dX0_settle_0 : decode cX0_settle 0 = .ok (.iload_n 1, 1) := by decide +kernel
theorem dX0_settle_1 : decode cX0_settle 1 = .ok (.invokestatic 30, 3) := by decide +kernel
theorem dX0_settle_4 : decode cX0_settle 4 = .ok (.iload_n 2, 1) := by decide +kernel
theorem dX0_settle_5 : decode cX0_settle 5 = .ok (.invokestatic 63, 3) := by decide +kernel
theorem dX0_settle_8 : decode cX0_settle 8 = .ok (.iconst 0, 1) := by decide +kernel
theorem dX0_settle_9 : decode cX0_settle 9 = .ok (.istore_n 3, 1) := by decide +kernel
theorem dX0_settle_10 : decode cX0_settle 10 = .ok (.iconst 1, 1) := by decide +kernel
theorem dX0_settle_11 : decode cX0_settle 11 = .ok (.istore 4, 2) := by decide +kernel
theorem dX0_settle_13 : decode cX0_settle 13 = .ok (.iload 4, 2) := by decide +kernel
theorem dX0_settle_15 : decode cX0_settle 15 = .ok (.bipush 12, 2) := by decide +kernel
theorem dX0_settle_17 : decode cX0_settle 17 = .ok (.if_icmp .ge 20, 3) := by decide +kernel
theorem dX0_settle_20 : decode cX0_settle 20 = .ok (.iload_n 3, 1) := by decide +kernel
theorem dX0_settle_21 : decode cX0_settle 21 = .ok (.aload_n 0, 1) := by decide +kernel
theorem dX0_settle_22 : decode cX0_settle 22 = .ok (.iload_n 1, 1) := by decide +kernel
theorem dX0_settle_23 : decode cX0_settle 23 = .ok (.iload 4, 2) := by decide +kernel
theorem dX0_settle_25 : decode cX0_settle 25 = .ok (.iload_n 2, 1) := by decide +kernel
theorem dX0_settle_26 : decode cX0_settle 26 = .ok (.invokevirtual 96, 3) := by decide +kernel
theorem dX0_settle_29 : decode cX0_settle 29 = .ok (.iadd, 1) := by decide +kernel
theorem dX0_settle_30 : decode cX0_settle 30 = .ok (.istore_n 3, 1) := by decide +kernel
theorem dX0_settle_31 : decode cX0_settle 31 = .ok (.iinc 4 1, 3) := by decide +kernel
theorem dX0_settle_34 : decode cX0_settle 34 = .ok (.goto (-21), 3) := by decide +kernel
theorem dX0_settle_37 : decode cX0_settle 37 = .ok (.iload_n 3, 1) := by decide +kernel
theorem dX0_settle_38 : decode cX0_settle 38 = .ok (.ireturn, 1) := by decide +kernel
set_option maxRecDepth 20000 in
theorem ggX0_meet_X0_needRow : GoodIn wsX0_meet wsX0_needRow := goodIn_ca (goodIn_r _ [5, 6, 7] (by decide +kernel) (by decide +kernel)) (goodIn_sub (fun _ h => List.mem_cons_of_mem _ (List.mem_append_left _ (List.mem_append_right _ h))) (by decide +kernel))
set_option maxRecDepth 20000 in
theorem gX0_meet_X0_needRow : GoodIn wsX0_meet (va_wsS RX0 30 yX0_needRow wsX0_needRow) := goodIn_app (goodIn_of _ (by decide +kernel)) ggX0_meet_X0_needRow
set_option maxRecDepth 20000 in
theorem ggX0_meet_X0_needSign : GoodIn wsX0_meet wsX0_needSign := goodIn_ca (goodIn_r _ [10, 11, 12] (by decide +kernel) (by decide +kernel)) (goodIn_sub (fun _ h => List.mem_cons_of_mem _ (List.mem_append_right _ h)) (by decide +kernel))
set_option maxRecDepth 20000 in
theorem gX0_meet_X0_needSign : GoodIn wsX0_meet (va_wsS RX0 63 yX0_needSign wsX0_needSign) := goodIn_app (goodIn_of _ (by decide +kernel)) ggX0_meet_X0_needSign
set_option maxRecDepth 20000 in
theorem ggX0_meet_X0_needOneSort : GoodIn wsX0_meet wsX0_needOneSort := goodIn_ca (goodIn_r _ [15, 11, 12, 16, 17, 4, 18] (by decide +kernel) (by decide +kernel)) (goodIn_sub (fun _ h => List.mem_cons_of_mem _ (List.mem_append_right _ h)) (by decide +kernel))
set_option maxRecDepth 20000 in
theorem gX0_meet_X0_needOneSort : GoodIn wsX0_meet (va_wsS RX0 55 yX0_needOneSort wsX0_needOneSort) := goodIn_app (goodIn_of _ (by decide +kernel)) ggX0_meet_X0_needOneSort
set_option maxRecDepth 20000 in
theorem ggX0_meet_X0_spot : GoodIn wsX0_meet wsX0_spot := goodIn_r _ [21] (by decide +kernel) (by decide +kernel)
set_option maxRecDepth 20000 in
theorem gX0_meet_X0_spot : GoodIn wsX0_meet (va_wsS RX0 40 yX0_spot wsX0_spot) := goodIn_app (goodIn_of _ (by decide +kernel)) ggX0_meet_X0_spot
set_option maxRecDepth 20000 in
theorem ggX0_meet_X0_isTrue : GoodIn wsX0_meet wsX0_isTrue := goodIn_r _ [24, 25] (by decide +kernel) (by decide +kernel)
set_option maxRecDepth 20000 in
theorem gX0_meet_X0_isTrue : GoodIn wsX0_meet (va_wsS RX0 69 yX0_isTrue wsX0_isTrue) := goodIn_app (goodIn_of _ (by decide +kernel)) ggX0_meet_X0_isTrue
theorem dX0_meet_0 : decode cX0_meet 0 = .ok (.iload_n 1, 1) := by decide +kernel
theorem dX0_meet_1 : decode cX0_meet 1 = .ok (.invokestatic 30, 3) := by decide +kernel
theorem dX0_meet_4 : decode cX0_meet 4 = .ok (.iload_n 2, 1) := by decide +kernel
theorem dX0_meet_5 : decode cX0_meet 5 = .ok (.invokestatic 30, 3) := by decide +kernel
theorem dX0_meet_8 : decode cX0_meet 8 = .ok (.iload_n 3, 1) := by decide +kernel
theorem dX0_meet_9 : decode cX0_meet 9 = .ok (.invokestatic 63, 3) := by decide +kernel
theorem dX0_meet_12 : decode cX0_meet 12 = .ok (.iload_n 1, 1) := by decide +kernel
theorem dX0_meet_13 : decode cX0_meet 13 = .ok (.iload_n 2, 1) := by decide +kernel
theorem dX0_meet_14 : decode cX0_meet 14 = .ok (.invokestatic 55, 3) := by decide +kernel
theorem dX0_meet_17 : decode cX0_meet 17 = .ok (.iconst 0, 1) := by decide +kernel
theorem dX0_meet_18 : decode cX0_meet 18 = .ok (.istore 4, 2) := by decide +kernel
theorem dX0_meet_20 : decode cX0_meet 20 = .ok (.iconst 0, 1) := by decide +kernel
theorem dX0_meet_21 : decode cX0_meet 21 = .ok (.istore 5, 2) := by decide +kernel
theorem dX0_meet_23 : decode cX0_meet 23 = .ok (.iload 5, 2) := by decide +kernel
theorem dX0_meet_25 : decode cX0_meet 25 = .ok (.bipush 12, 2) := by decide +kernel
theorem dX0_meet_27 : decode cX0_meet 27 = .ok (.if_icmp .ge 41, 3) := by decide +kernel
theorem dX0_meet_30 : decode cX0_meet 30 = .ok (.iload_n 3, 1) := by decide +kernel
theorem dX0_meet_31 : decode cX0_meet 31 = .ok (.aload_n 0, 1) := by decide +kernel
theorem dX0_meet_32 : decode cX0_meet 32 = .ok (.getfield 9, 3) := by decide +kernel
theorem dX0_meet_35 : decode cX0_meet 35 = .ok (.iload_n 1, 1) := by decide +kernel
theorem dX0_meet_36 : decode cX0_meet 36 = .ok (.iload 5, 2) := by decide +kernel
theorem dX0_meet_38 : decode cX0_meet 38 = .ok (.invokestatic 40, 3) := by decide +kernel
theorem dX0_meet_41 : decode cX0_meet 41 = .ok (.iaload, 1) := by decide +kernel
theorem dX0_meet_42 : decode cX0_meet 42 = .ok (.aload_n 0, 1) := by decide +kernel
theorem dX0_meet_43 : decode cX0_meet 43 = .ok (.getfield 9, 3) := by decide +kernel
theorem dX0_meet_46 : decode cX0_meet 46 = .ok (.iload_n 2, 1) := by decide +kernel
theorem dX0_meet_47 : decode cX0_meet 47 = .ok (.iload 5, 2) := by decide +kernel
theorem dX0_meet_49 : decode cX0_meet 49 = .ok (.invokestatic 40, 3) := by decide +kernel
theorem dX0_meet_52 : decode cX0_meet 52 = .ok (.iaload, 1) := by decide +kernel
theorem dX0_meet_53 : decode cX0_meet 53 = .ok (.invokestatic 69, 3) := by decide +kernel
theorem dX0_meet_56 : decode cX0_meet 56 = .ok (.ifCond .eq 6, 3) := by decide +kernel
theorem dX0_meet_59 : decode cX0_meet 59 = .ok (.iinc 4 1, 3) := by decide +kernel
theorem dX0_meet_62 : decode cX0_meet 62 = .ok (.iinc 5 1, 3) := by decide +kernel
theorem dX0_meet_65 : decode cX0_meet 65 = .ok (.goto (-42), 3) := by decide +kernel
theorem dX0_meet_68 : decode cX0_meet 68 = .ok (.iload 4, 2) := by decide +kernel
theorem dX0_meet_70 : decode cX0_meet 70 = .ok (.ireturn, 1) := by decide +kernel
set_option maxRecDepth 20000 in
theorem ggX0_alike_X0_needRow : GoodIn wsX0_alike wsX0_needRow := goodIn_ca (goodIn_r _ [5, 6, 7] (by decide +kernel) (by decide +kernel)) (goodIn_sub (fun _ h => List.mem_cons_of_mem _ (List.mem_append_left _ (List.mem_append_right _ h))) (by decide +kernel))
set_option maxRecDepth 20000 in
theorem gX0_alike_X0_needRow : GoodIn wsX0_alike (va_wsS RX0 30 yX0_needRow wsX0_needRow) := goodIn_app (goodIn_of _ (by decide +kernel)) ggX0_alike_X0_needRow
set_option maxRecDepth 20000 in
theorem ggX0_alike_X0_needOneSort : GoodIn wsX0_alike wsX0_needOneSort := goodIn_ca (goodIn_r _ [10, 11, 12, 13, 14, 4, 15] (by decide +kernel) (by decide +kernel)) (goodIn_sub (fun _ h => List.mem_cons_of_mem _ (List.mem_append_right _ h)) (by decide +kernel))
set_option maxRecDepth 20000 in
theorem gX0_alike_X0_needOneSort : GoodIn wsX0_alike (va_wsS RX0 55 yX0_needOneSort wsX0_needOneSort) := goodIn_app (goodIn_of _ (by decide +kernel)) ggX0_alike_X0_needOneSort
set_option maxRecDepth 20000 in
theorem ggX0_alike_X0_spot : GoodIn wsX0_alike wsX0_spot := goodIn_r _ [18] (by decide +kernel) (by decide +kernel)
set_option maxRecDepth 20000 in
theorem gX0_alike_X0_spot : GoodIn wsX0_alike (va_wsS RX0 40 yX0_spot wsX0_spot) := goodIn_app (goodIn_of _ (by decide +kernel)) ggX0_alike_X0_spot
theorem dX0_alike_0 : decode cX0_alike 0 = .ok (.iload_n 1, 1) := by decide +kernel
theorem dX0_alike_1 : decode cX0_alike 1 = .ok (.invokestatic 30, 3) := by decide +kernel
theorem dX0_alike_4 : decode cX0_alike 4 = .ok (.iload_n 2, 1) := by decide +kernel
theorem dX0_alike_5 : decode cX0_alike 5 = .ok (.invokestatic 30, 3) := by decide +kernel
theorem dX0_alike_8 : decode cX0_alike 8 = .ok (.iload_n 1, 1) := by decide +kernel
theorem dX0_alike_9 : decode cX0_alike 9 = .ok (.iload_n 2, 1) := by decide +kernel
theorem dX0_alike_10 : decode cX0_alike 10 = .ok (.invokestatic 55, 3) := by decide +kernel
theorem dX0_alike_13 : decode cX0_alike 13 = .ok (.iconst 0, 1) := by decide +kernel
theorem dX0_alike_14 : decode cX0_alike 14 = .ok (.istore_n 3, 1) := by decide +kernel
theorem dX0_alike_15 : decode cX0_alike 15 = .ok (.iload_n 3, 1) := by decide +kernel
theorem dX0_alike_16 : decode cX0_alike 16 = .ok (.bipush 12, 2) := by decide +kernel
theorem dX0_alike_18 : decode cX0_alike 18 = .ok (.if_icmp .ge 34, 3) := by decide +kernel
theorem dX0_alike_21 : decode cX0_alike 21 = .ok (.aload_n 0, 1) := by decide +kernel
theorem dX0_alike_22 : decode cX0_alike 22 = .ok (.getfield 9, 3) := by decide +kernel
theorem dX0_alike_25 : decode cX0_alike 25 = .ok (.iload_n 1, 1) := by decide +kernel
theorem dX0_alike_26 : decode cX0_alike 26 = .ok (.iload_n 3, 1) := by decide +kernel
theorem dX0_alike_27 : decode cX0_alike 27 = .ok (.invokestatic 40, 3) := by decide +kernel
theorem dX0_alike_30 : decode cX0_alike 30 = .ok (.iaload, 1) := by decide +kernel
theorem dX0_alike_31 : decode cX0_alike 31 = .ok (.aload_n 0, 1) := by decide +kernel
theorem dX0_alike_32 : decode cX0_alike 32 = .ok (.getfield 9, 3) := by decide +kernel
theorem dX0_alike_35 : decode cX0_alike 35 = .ok (.iload_n 2, 1) := by decide +kernel
theorem dX0_alike_36 : decode cX0_alike 36 = .ok (.iload_n 3, 1) := by decide +kernel
theorem dX0_alike_37 : decode cX0_alike 37 = .ok (.invokestatic 40, 3) := by decide +kernel
theorem dX0_alike_40 : decode cX0_alike 40 = .ok (.iaload, 1) := by decide +kernel
theorem dX0_alike_41 : decode cX0_alike 41 = .ok (.if_icmp .eq 5, 3) := by decide +kernel
theorem dX0_alike_44 : decode cX0_alike 44 = .ok (.iconst 0, 1) := by decide +kernel
theorem dX0_alike_45 : decode cX0_alike 45 = .ok (.ireturn, 1) := by decide +kernel
theorem dX0_alike_46 : decode cX0_alike 46 = .ok (.iinc 3 1, 3) := by decide +kernel
theorem dX0_alike_49 : decode cX0_alike 49 = .ok (.goto (-34), 3) := by decide +kernel
theorem dX0_alike_52 : decode cX0_alike 52 = .ok (.iconst 1, 1) := by decide +kernel
theorem dX0_alike_53 : decode cX0_alike 53 = .ok (.ireturn, 1) := by decide +kernel
set_option maxRecDepth 20000 in
theorem ggX0_merge_X0_needRow : GoodIn wsX0_merge wsX0_needRow := goodIn_ca (goodIn_r _ [5, 6, 7] (by decide +kernel) (by decide +kernel)) (goodIn_sub (fun _ h => List.mem_cons_of_mem _ (List.mem_append_left _ (List.mem_append_right _ h))) (by decide +kernel))
set_option maxRecDepth 20000 in
theorem gX0_merge_X0_needRow : GoodIn wsX0_merge (va_wsS RX0 30 yX0_needRow wsX0_needRow) := goodIn_app (goodIn_of _ (by decide +kernel)) ggX0_merge_X0_needRow
set_option maxRecDepth 20000 in
theorem ggX0_merge_X0_needSign : GoodIn wsX0_merge wsX0_needSign := goodIn_ca (goodIn_r _ [10, 11, 12] (by decide +kernel) (by decide +kernel)) (goodIn_sub (fun _ h => List.mem_cons_of_mem _ (List.mem_append_right _ h)) (by decide +kernel))
set_option maxRecDepth 20000 in
theorem gX0_merge_X0_needSign : GoodIn wsX0_merge (va_wsS RX0 63 yX0_needSign wsX0_needSign) := goodIn_app (goodIn_of _ (by decide +kernel)) ggX0_merge_X0_needSign
set_option maxRecDepth 20000 in
theorem ggX0_merge_X0_needOneSort : GoodIn wsX0_merge wsX0_needOneSort := goodIn_ca (goodIn_r _ [15, 11, 12, 16, 17, 4, 18] (by decide +kernel) (by decide +kernel)) (goodIn_sub (fun _ h => List.mem_cons_of_mem _ (List.mem_append_right _ h)) (by decide +kernel))
set_option maxRecDepth 20000 in
theorem gX0_merge_X0_needOneSort : GoodIn wsX0_merge (va_wsS RX0 55 yX0_needOneSort wsX0_needOneSort) := goodIn_app (goodIn_of _ (by decide +kernel)) ggX0_merge_X0_needOneSort
set_option maxRecDepth 20000 in
theorem ggX0_merge_X0_needApart : GoodIn wsX0_merge wsX0_needApart := goodIn_ca (goodIn_r _ [21, 11, 12] (by decide +kernel) (by decide +kernel)) (goodIn_sub (fun _ h => List.mem_cons_of_mem _ (List.mem_append_right _ h)) (by decide +kernel))
set_option maxRecDepth 20000 in
theorem gX0_merge_X0_needApart : GoodIn wsX0_merge (va_wsS RX0 100 yX0_needApart wsX0_needApart) := goodIn_app (goodIn_of _ (by decide +kernel)) ggX0_merge_X0_needApart
set_option maxRecDepth 20000 in
theorem ggX0_merge_X0_spot : GoodIn wsX0_merge wsX0_spot := goodIn_r _ [24] (by decide +kernel) (by decide +kernel)
set_option maxRecDepth 20000 in
theorem gX0_merge_X0_spot : GoodIn wsX0_merge (va_wsS RX0 40 yX0_spot wsX0_spot) := goodIn_app (goodIn_of _ (by decide +kernel)) ggX0_merge_X0_spot
set_option maxRecDepth 20000 in
theorem ggX0_merge_X0_isTrue : GoodIn wsX0_merge wsX0_isTrue := goodIn_r _ [27, 28] (by decide +kernel) (by decide +kernel)
set_option maxRecDepth 20000 in
theorem gX0_merge_X0_isTrue : GoodIn wsX0_merge (va_wsS RX0 69 yX0_isTrue wsX0_isTrue) := goodIn_app (goodIn_of _ (by decide +kernel)) ggX0_merge_X0_isTrue
theorem dX0_merge_0 : decode cX0_merge 0 = .ok (.iload_n 1, 1) := by decide +kernel
theorem dX0_merge_1 : decode cX0_merge 1 = .ok (.invokestatic 30, 3) := by decide +kernel
theorem dX0_merge_4 : decode cX0_merge 4 = .ok (.iload_n 2, 1) := by decide +kernel
theorem dX0_merge_5 : decode cX0_merge 5 = .ok (.invokestatic 30, 3) := by decide +kernel
theorem dX0_merge_8 : decode cX0_merge 8 = .ok (.iload_n 3, 1) := by decide +kernel
theorem dX0_merge_9 : decode cX0_merge 9 = .ok (.invokestatic 30, 3) := by decide +kernel
theorem dX0_merge_12 : decode cX0_merge 12 = .ok (.iload 4, 2) := by decide +kernel
theorem dX0_merge_14 : decode cX0_merge 14 = .ok (.invokestatic 63, 3) := by decide +kernel
theorem dX0_merge_17 : decode cX0_merge 17 = .ok (.iload_n 1, 1) := by decide +kernel
theorem dX0_merge_18 : decode cX0_merge 18 = .ok (.iload_n 2, 1) := by decide +kernel
theorem dX0_merge_19 : decode cX0_merge 19 = .ok (.invokestatic 55, 3) := by decide +kernel
theorem dX0_merge_22 : decode cX0_merge 22 = .ok (.iload_n 1, 1) := by decide +kernel
theorem dX0_merge_23 : decode cX0_merge 23 = .ok (.iload_n 3, 1) := by decide +kernel
theorem dX0_merge_24 : decode cX0_merge 24 = .ok (.invokestatic 55, 3) := by decide +kernel
theorem dX0_merge_27 : decode cX0_merge 27 = .ok (.iload_n 3, 1) := by decide +kernel
theorem dX0_merge_28 : decode cX0_merge 28 = .ok (.iload_n 1, 1) := by decide +kernel
theorem dX0_merge_29 : decode cX0_merge 29 = .ok (.invokestatic 100, 3) := by decide +kernel
theorem dX0_merge_32 : decode cX0_merge 32 = .ok (.iload_n 3, 1) := by decide +kernel
theorem dX0_merge_33 : decode cX0_merge 33 = .ok (.iload_n 2, 1) := by decide +kernel
theorem dX0_merge_34 : decode cX0_merge 34 = .ok (.invokestatic 100, 3) := by decide +kernel
theorem dX0_merge_37 : decode cX0_merge 37 = .ok (.iconst 0, 1) := by decide +kernel
theorem dX0_merge_38 : decode cX0_merge 38 = .ok (.istore 5, 2) := by decide +kernel
theorem dX0_merge_40 : decode cX0_merge 40 = .ok (.iconst 0, 1) := by decide +kernel
theorem dX0_merge_41 : decode cX0_merge 41 = .ok (.istore 6, 2) := by decide +kernel
theorem dX0_merge_43 : decode cX0_merge 43 = .ok (.iload 6, 2) := by decide +kernel
theorem dX0_merge_45 : decode cX0_merge 45 = .ok (.bipush 12, 2) := by decide +kernel
theorem dX0_merge_47 : decode cX0_merge 47 = .ok (.if_icmp .ge 80, 3) := by decide +kernel
theorem dX0_merge_50 : decode cX0_merge 50 = .ok (.aload_n 0, 1) := by decide +kernel
theorem dX0_merge_51 : decode cX0_merge 51 = .ok (.getfield 9, 3) := by decide +kernel
theorem dX0_merge_54 : decode cX0_merge 54 = .ok (.iload_n 1, 1) := by decide +kernel
theorem dX0_merge_55 : decode cX0_merge 55 = .ok (.iload 5, 2) := by decide +kernel
theorem dX0_merge_57 : decode cX0_merge 57 = .ok (.invokestatic 40, 3) := by decide +kernel
theorem dX0_merge_60 : decode cX0_merge 60 = .ok (.iaload, 1) := by decide +kernel
theorem dX0_merge_61 : decode cX0_merge 61 = .ok (.istore 7, 2) := by decide +kernel
theorem dX0_merge_63 : decode cX0_merge 63 = .ok (.aload_n 0, 1) := by decide +kernel
theorem dX0_merge_64 : decode cX0_merge 64 = .ok (.getfield 9, 3) := by decide +kernel
theorem dX0_merge_67 : decode cX0_merge 67 = .ok (.iload_n 2, 1) := by decide +kernel
theorem dX0_merge_68 : decode cX0_merge 68 = .ok (.iload 6, 2) := by decide +kernel
theorem dX0_merge_70 : decode cX0_merge 70 = .ok (.iload 5, 2) := by decide +kernel
theorem dX0_merge_72 : decode cX0_merge 72 = .ok (.isub, 1) := by decide +kernel
theorem dX0_merge_73 : decode cX0_merge 73 = .ok (.invokestatic 40, 3) := by decide +kernel
theorem dX0_merge_76 : decode cX0_merge 76 = .ok (.iaload, 1) := by decide +kernel
theorem dX0_merge_77 : decode cX0_merge 77 = .ok (.istore 8, 2) := by decide +kernel
theorem dX0_merge_79 : decode cX0_merge 79 = .ok (.iload 4, 2) := by decide +kernel
theorem dX0_merge_81 : decode cX0_merge 81 = .ok (.iload 7, 2) := by decide +kernel
theorem dX0_merge_83 : decode cX0_merge 83 = .ok (.iload 8, 2) := by decide +kernel
theorem dX0_merge_85 : decode cX0_merge 85 = .ok (.invokestatic 69, 3) := by decide +kernel
theorem dX0_merge_88 : decode cX0_merge 88 = .ok (.istore 9, 2) := by decide +kernel
theorem dX0_merge_90 : decode cX0_merge 90 = .ok (.aload_n 0, 1) := by decide +kernel
theorem dX0_merge_91 : decode cX0_merge 91 = .ok (.getfield 9, 3) := by decide +kernel
theorem dX0_merge_94 : decode cX0_merge 94 = .ok (.iload_n 3, 1) := by decide +kernel
theorem dX0_merge_95 : decode cX0_merge 95 = .ok (.iload 6, 2) := by decide +kernel
theorem dX0_merge_97 : decode cX0_merge 97 = .ok (.invokestatic 40, 3) := by decide +kernel
theorem dX0_merge_100 : decode cX0_merge 100 = .ok (.iload 9, 2) := by decide +kernel
theorem dX0_merge_102 : decode cX0_merge 102 = .ok (.ifCond .eq 8, 3) := by decide +kernel
theorem dX0_merge_105 : decode cX0_merge 105 = .ok (.iload 7, 2) := by decide +kernel
theorem dX0_merge_107 : decode cX0_merge 107 = .ok (.goto 5, 3) := by decide +kernel
theorem dX0_merge_110 : decode cX0_merge 110 = .ok (.iload 8, 2) := by decide +kernel
theorem dX0_merge_112 : decode cX0_merge 112 = .ok (.iastore, 1) := by decide +kernel
theorem dX0_merge_113 : decode cX0_merge 113 = .ok (.iload 9, 2) := by decide +kernel
theorem dX0_merge_115 : decode cX0_merge 115 = .ok (.ifCond .eq 6, 3) := by decide +kernel
theorem dX0_merge_118 : decode cX0_merge 118 = .ok (.iinc 5 1, 3) := by decide +kernel
theorem dX0_merge_121 : decode cX0_merge 121 = .ok (.iinc 6 1, 3) := by decide +kernel
theorem dX0_merge_124 : decode cX0_merge 124 = .ok (.goto (-81), 3) := by decide +kernel
theorem dX0_merge_127 : decode cX0_merge 127 = .ok (.iload 5, 2) := by decide +kernel
theorem dX0_merge_129 : decode cX0_merge 129 = .ok (.ireturn, 1) := by decide +kernel
theorem dX0_isTrue_0 : decode cX0_isTrue 0 = .ok (.iload_n 1, 1) := by decide +kernel
theorem dX0_isTrue_1 : decode cX0_isTrue 1 = .ok (.ldc 23, 2) := by decide +kernel
theorem dX0_isTrue_3 : decode cX0_isTrue 3 = .ok (.if_icmp .eq 9, 3) := by decide +kernel
theorem dX0_isTrue_6 : decode cX0_isTrue 6 = .ok (.iload_n 2, 1) := by decide +kernel
theorem dX0_isTrue_7 : decode cX0_isTrue 7 = .ok (.ldc 23, 2) := by decide +kernel
theorem dX0_isTrue_9 : decode cX0_isTrue 9 = .ok (.if_icmp .ne 14, 3) := by decide +kernel
theorem dX0_isTrue_12 : decode cX0_isTrue 12 = .ok (.iload_n 0, 1) := by decide +kernel
theorem dX0_isTrue_13 : decode cX0_isTrue 13 = .ok (.iconst 5, 1) := by decide +kernel
theorem dX0_isTrue_14 : decode cX0_isTrue 14 = .ok (.if_icmp .ne 7, 3) := by decide +kernel
theorem dX0_isTrue_17 : decode cX0_isTrue 17 = .ok (.iconst 1, 1) := by decide +kernel
theorem dX0_isTrue_18 : decode cX0_isTrue 18 = .ok (.goto 4, 3) := by decide +kernel
theorem dX0_isTrue_21 : decode cX0_isTrue 21 = .ok (.iconst 0, 1) := by decide +kernel
theorem dX0_isTrue_22 : decode cX0_isTrue 22 = .ok (.ireturn, 1) := by decide +kernel
theorem dX0_isTrue_23 : decode cX0_isTrue 23 = .ok (.iload_n 0, 1) := by decide +kernel
theorem dX0_isTrue_24 : decode cX0_isTrue 24 = .ok (.tableswitch 91 0 4 #[36, 47, 58, 69, 80], 36) := by decide +kernel
theorem dX0_isTrue_60 : decode cX0_isTrue 60 = .ok (.iload_n 1, 1) := by decide +kernel
theorem dX0_isTrue_61 : decode cX0_isTrue 61 = .ok (.iload_n 2, 1) := by decide +kernel
theorem dX0_isTrue_62 : decode cX0_isTrue 62 = .ok (.if_icmp .ge 7, 3) := by decide +kernel
theorem dX0_isTrue_65 : decode cX0_isTrue 65 = .ok (.iconst 1, 1) := by decide +kernel
theorem dX0_isTrue_66 : decode cX0_isTrue 66 = .ok (.goto 4, 3) := by decide +kernel
theorem dX0_isTrue_69 : decode cX0_isTrue 69 = .ok (.iconst 0, 1) := by decide +kernel
theorem dX0_isTrue_70 : decode cX0_isTrue 70 = .ok (.ireturn, 1) := by decide +kernel
theorem dX0_isTrue_71 : decode cX0_isTrue 71 = .ok (.iload_n 1, 1) := by decide +kernel
theorem dX0_isTrue_72 : decode cX0_isTrue 72 = .ok (.iload_n 2, 1) := by decide +kernel
theorem dX0_isTrue_73 : decode cX0_isTrue 73 = .ok (.if_icmp .gt 7, 3) := by decide +kernel
theorem dX0_isTrue_76 : decode cX0_isTrue 76 = .ok (.iconst 1, 1) := by decide +kernel
theorem dX0_isTrue_77 : decode cX0_isTrue 77 = .ok (.goto 4, 3) := by decide +kernel
theorem dX0_isTrue_80 : decode cX0_isTrue 80 = .ok (.iconst 0, 1) := by decide +kernel
theorem dX0_isTrue_81 : decode cX0_isTrue 81 = .ok (.ireturn, 1) := by decide +kernel
theorem dX0_isTrue_82 : decode cX0_isTrue 82 = .ok (.iload_n 1, 1) := by decide +kernel
theorem dX0_isTrue_83 : decode cX0_isTrue 83 = .ok (.iload_n 2, 1) := by decide +kernel
theorem dX0_isTrue_84 : decode cX0_isTrue 84 = .ok (.if_icmp .le 7, 3) := by decide +kernel
theorem dX0_isTrue_87 : decode cX0_isTrue 87 = .ok (.iconst 1, 1) := by decide +kernel
theorem dX0_isTrue_88 : decode cX0_isTrue 88 = .ok (.goto 4, 3) := by decide +kernel
theorem dX0_isTrue_91 : decode cX0_isTrue 91 = .ok (.iconst 0, 1) := by decide +kernel
theorem dX0_isTrue_92 : decode cX0_isTrue 92 = .ok (.ireturn, 1) := by decide +kernel
theorem dX0_isTrue_93 : decode cX0_isTrue 93 = .ok (.iload_n 1, 1) := by decide +kernel
theorem dX0_isTrue_94 : decode cX0_isTrue 94 = .ok (.iload_n 2, 1) := by decide +kernel
theorem dX0_isTrue_95 : decode cX0_isTrue 95 = .ok (.if_icmp .lt 7, 3) := by decide +kernel
theorem dX0_isTrue_98 : decode cX0_isTrue 98 = .ok (.iconst 1, 1) := by decide +kernel
theorem dX0_isTrue_99 : decode cX0_isTrue 99 = .ok (.goto 4, 3) := by decide +kernel
theorem dX0_isTrue_102 : decode cX0_isTrue 102 = .ok (.iconst 0, 1) := by decide +kernel
theorem dX0_isTrue_103 : decode cX0_isTrue 103 = .ok (.ireturn, 1) := by decide +kernel
theorem dX0_isTrue_104 : decode cX0_isTrue 104 = .ok (.iload_n 1, 1) := by decide +kernel
theorem dX0_isTrue_105 : decode cX0_isTrue 105 = .ok (.iload_n 2, 1) := by decide +kernel
theorem dX0_isTrue_106 : decode cX0_isTrue 106 = .ok (.if_icmp .ne 7, 3) := by decide +kernel
theorem dX0_isTrue_109 : decode cX0_isTrue 109 = .ok (.iconst 1, 1) := by decide +kernel
theorem dX0_isTrue_110 : decode cX0_isTrue 110 = .ok (.goto 4, 3) := by decide +kernel
theorem dX0_isTrue_113 : decode cX0_isTrue 113 = .ok (.iconst 0, 1) := by decide +kernel
theorem dX0_isTrue_114 : decode cX0_isTrue 114 = .ok (.ireturn, 1) := by decide +kernel
theorem dX0_isTrue_115 : decode cX0_isTrue 115 = .ok (.iload_n 1, 1) := by decide +kernel
theorem dX0_isTrue_116 : decode cX0_isTrue 116 = .ok (.iload_n 2, 1) := by decide +kernel
theorem dX0_isTrue_117 : decode cX0_isTrue 117 = .ok (.if_icmp .eq 7, 3) := by decide +kernel
theorem dX0_isTrue_120 : decode cX0_isTrue 120 = .ok (.iconst 1, 1) := by decide +kernel
theorem dX0_isTrue_121 : decode cX0_isTrue 121 = .ok (.goto 4, 3) := by decide +kernel
theorem dX0_isTrue_124 : decode cX0_isTrue 124 = .ok (.iconst 0, 1) := by decide +kernel
theorem dX0_isTrue_125 : decode cX0_isTrue 125 = .ok (.ireturn, 1) := by decide +kernel
set_option maxRecDepth 20000 in
theorem ggX0_isTrueOfNext_X0_spot : GoodIn wsX0_isTrueOfNext wsX0_spot := goodIn_r _ [5] (by decide +kernel) (by decide +kernel)
set_option maxRecDepth 20000 in
theorem gX0_isTrueOfNext_X0_spot : GoodIn wsX0_isTrueOfNext (va_wsS RX0 40 yX0_spot wsX0_spot) := goodIn_app (goodIn_of _ (by decide +kernel)) ggX0_isTrueOfNext_X0_spot
set_option maxRecDepth 20000 in
theorem ggX0_isTrueOfNext_X0_isTrue : GoodIn wsX0_isTrueOfNext wsX0_isTrue := goodIn_r _ [8, 9] (by decide +kernel) (by decide +kernel)
set_option maxRecDepth 20000 in
theorem gX0_isTrueOfNext_X0_isTrue : GoodIn wsX0_isTrueOfNext (va_wsS RX0 69 yX0_isTrue wsX0_isTrue) := goodIn_app (goodIn_of _ (by decide +kernel)) ggX0_isTrueOfNext_X0_isTrue
theorem dX0_isTrueOfNext_0 : decode cX0_isTrueOfNext 0 = .ok (.iload_n 3, 1) := by decide +kernel
theorem dX0_isTrueOfNext_1 : decode cX0_isTrueOfNext 1 = .ok (.aload_n 0, 1) := by decide +kernel
theorem dX0_isTrueOfNext_2 : decode cX0_isTrueOfNext 2 = .ok (.getfield 9, 3) := by decide +kernel
theorem dX0_isTrueOfNext_5 : decode cX0_isTrueOfNext 5 = .ok (.iload_n 1, 1) := by decide +kernel
theorem dX0_isTrueOfNext_6 : decode cX0_isTrueOfNext 6 = .ok (.iload_n 2, 1) := by decide +kernel
theorem dX0_isTrueOfNext_7 : decode cX0_isTrueOfNext 7 = .ok (.invokestatic 40, 3) := by decide +kernel
theorem dX0_isTrueOfNext_10 : decode cX0_isTrueOfNext 10 = .ok (.iaload, 1) := by decide +kernel
theorem dX0_isTrueOfNext_11 : decode cX0_isTrueOfNext 11 = .ok (.aload_n 0, 1) := by decide +kernel
theorem dX0_isTrueOfNext_12 : decode cX0_isTrueOfNext 12 = .ok (.getfield 9, 3) := by decide +kernel
theorem dX0_isTrueOfNext_15 : decode cX0_isTrueOfNext 15 = .ok (.iload_n 1, 1) := by decide +kernel
theorem dX0_isTrueOfNext_16 : decode cX0_isTrueOfNext 16 = .ok (.iload_n 2, 1) := by decide +kernel
theorem dX0_isTrueOfNext_17 : decode cX0_isTrueOfNext 17 = .ok (.iconst 1, 1) := by decide +kernel
theorem dX0_isTrueOfNext_18 : decode cX0_isTrueOfNext 18 = .ok (.iadd, 1) := by decide +kernel
theorem dX0_isTrueOfNext_19 : decode cX0_isTrueOfNext 19 = .ok (.invokestatic 40, 3) := by decide +kernel
theorem dX0_isTrueOfNext_22 : decode cX0_isTrueOfNext 22 = .ok (.iaload, 1) := by decide +kernel
theorem dX0_isTrueOfNext_23 : decode cX0_isTrueOfNext 23 = .ok (.invokestatic 69, 3) := by decide +kernel
theorem dX0_isTrueOfNext_26 : decode cX0_isTrueOfNext 26 = .ok (.ireturn, 1) := by decide +kernel
set_option maxRecDepth 20000 in
theorem ggX0_walk_X0_isTrueOfNext : GoodIn wsX0_walk wsX0_isTrueOfNext := goodIn_r _ [5, 6, 7, 8, 4, 9, 10, 11, 12, 13, 14, 15, 16, 17] (by decide +kernel) (by decide +kernel)
set_option maxRecDepth 20000 in
theorem gX0_walk_X0_isTrueOfNext : GoodIn wsX0_walk (wsV RX0 88 RX0 yX0_isTrueOfNext wsX0_isTrueOfNext) := goodIn_app (goodIn_of _ (by decide +kernel)) ggX0_walk_X0_isTrueOfNext
theorem dX0_walk_0 : decode cX0_walk 0 = .ok (.iload_n 2, 1) := by decide +kernel
theorem dX0_walk_1 : decode cX0_walk 1 = .ok (.istore 5, 2) := by decide +kernel
theorem dX0_walk_3 : decode cX0_walk 3 = .ok (.iload 5, 2) := by decide +kernel
theorem dX0_walk_5 : decode cX0_walk 5 = .ok (.bipush 11, 2) := by decide +kernel
theorem dX0_walk_7 : decode cX0_walk 7 = .ok (.if_icmp .ge 22, 3) := by decide +kernel
theorem dX0_walk_10 : decode cX0_walk 10 = .ok (.aload_n 0, 1) := by decide +kernel
theorem dX0_walk_11 : decode cX0_walk 11 = .ok (.iload_n 1, 1) := by decide +kernel
theorem dX0_walk_12 : decode cX0_walk 12 = .ok (.iload 5, 2) := by decide +kernel
theorem dX0_walk_14 : decode cX0_walk 14 = .ok (.iload_n 3, 1) := by decide +kernel
theorem dX0_walk_15 : decode cX0_walk 15 = .ok (.invokevirtual 88, 3) := by decide +kernel
theorem dX0_walk_18 : decode cX0_walk 18 = .ok (.iload 4, 2) := by decide +kernel
theorem dX0_walk_20 : decode cX0_walk 20 = .ok (.if_icmp .ne 9, 3) := by decide +kernel
theorem dX0_walk_23 : decode cX0_walk 23 = .ok (.iinc 5 1, 3) := by decide +kernel
theorem dX0_walk_26 : decode cX0_walk 26 = .ok (.goto (-23), 3) := by decide +kernel
theorem dX0_walk_29 : decode cX0_walk 29 = .ok (.iload 5, 2) := by decide +kernel
theorem dX0_walk_31 : decode cX0_walk 31 = .ok (.ireturn, 1) := by decide +kernel
set_option maxRecDepth 20000 in
theorem ggX0_moveLeft_X0_spot : GoodIn wsX0_moveLeft wsX0_spot := goodIn_r _ [5] (by decide +kernel) (by decide +kernel)
set_option maxRecDepth 20000 in
theorem gX0_moveLeft_X0_spot : GoodIn wsX0_moveLeft (va_wsS RX0 40 yX0_spot wsX0_spot) := goodIn_app (goodIn_of _ (by decide +kernel)) ggX0_moveLeft_X0_spot
set_option maxRecDepth 20000 in
theorem ggX0_moveLeft_X0_isTrue : GoodIn wsX0_moveLeft wsX0_isTrue := goodIn_r _ [8, 9] (by decide +kernel) (by decide +kernel)
set_option maxRecDepth 20000 in
theorem gX0_moveLeft_X0_isTrue : GoodIn wsX0_moveLeft (va_wsS RX0 69 yX0_isTrue wsX0_isTrue) := goodIn_app (goodIn_of _ (by decide +kernel)) ggX0_moveLeft_X0_isTrue
theorem dX0_moveLeft_0 : decode cX0_moveLeft 0 = .ok (.iload_n 2, 1) := by decide +kernel
theorem dX0_moveLeft_1 : decode cX0_moveLeft 1 = .ok (.istore 4, 2) := by decide +kernel
theorem dX0_moveLeft_3 : decode cX0_moveLeft 3 = .ok (.iload 4, 2) := by decide +kernel
theorem dX0_moveLeft_5 : decode cX0_moveLeft 5 = .ok (.ifCond .le 92, 3) := by decide +kernel
theorem dX0_moveLeft_8 : decode cX0_moveLeft 8 = .ok (.iload_n 3, 1) := by decide +kernel
theorem dX0_moveLeft_9 : decode cX0_moveLeft 9 = .ok (.aload_n 0, 1) := by decide +kernel
theorem dX0_moveLeft_10 : decode cX0_moveLeft 10 = .ok (.getfield 9, 3) := by decide +kernel
theorem dX0_moveLeft_13 : decode cX0_moveLeft 13 = .ok (.iload_n 1, 1) := by decide +kernel
theorem dX0_moveLeft_14 : decode cX0_moveLeft 14 = .ok (.iload 4, 2) := by decide +kernel
theorem dX0_moveLeft_16 : decode cX0_moveLeft 16 = .ok (.invokestatic 40, 3) := by decide +kernel
theorem dX0_moveLeft_19 : decode cX0_moveLeft 19 = .ok (.iaload, 1) := by decide +kernel
theorem dX0_moveLeft_20 : decode cX0_moveLeft 20 = .ok (.aload_n 0, 1) := by decide +kernel
theorem dX0_moveLeft_21 : decode cX0_moveLeft 21 = .ok (.getfield 9, 3) := by decide +kernel
theorem dX0_moveLeft_24 : decode cX0_moveLeft 24 = .ok (.iload_n 1, 1) := by decide +kernel
theorem dX0_moveLeft_25 : decode cX0_moveLeft 25 = .ok (.iload 4, 2) := by decide +kernel
theorem dX0_moveLeft_27 : decode cX0_moveLeft 27 = .ok (.iconst 1, 1) := by decide +kernel
theorem dX0_moveLeft_28 : decode cX0_moveLeft 28 = .ok (.isub, 1) := by decide +kernel
theorem dX0_moveLeft_29 : decode cX0_moveLeft 29 = .ok (.invokestatic 40, 3) := by decide +kernel
theorem dX0_moveLeft_32 : decode cX0_moveLeft 32 = .ok (.iaload, 1) := by decide +kernel
theorem dX0_moveLeft_33 : decode cX0_moveLeft 33 = .ok (.invokestatic 69, 3) := by decide +kernel
theorem dX0_moveLeft_36 : decode cX0_moveLeft 36 = .ok (.ifCond .eq 61, 3) := by decide +kernel
theorem dX0_moveLeft_39 : decode cX0_moveLeft 39 = .ok (.aload_n 0, 1) := by decide +kernel
theorem dX0_moveLeft_40 : decode cX0_moveLeft 40 = .ok (.getfield 9, 3) := by decide +kernel
theorem dX0_moveLeft_43 : decode cX0_moveLeft 43 = .ok (.iload_n 1, 1) := by decide +kernel
theorem dX0_moveLeft_44 : decode cX0_moveLeft 44 = .ok (.iload 4, 2) := by decide +kernel
theorem dX0_moveLeft_46 : decode cX0_moveLeft 46 = .ok (.invokestatic 40, 3) := by decide +kernel
theorem dX0_moveLeft_49 : decode cX0_moveLeft 49 = .ok (.iaload, 1) := by decide +kernel
theorem dX0_moveLeft_50 : decode cX0_moveLeft 50 = .ok (.istore 5, 2) := by decide +kernel
theorem dX0_moveLeft_52 : decode cX0_moveLeft 52 = .ok (.aload_n 0, 1) := by decide +kernel
theorem dX0_moveLeft_53 : decode cX0_moveLeft 53 = .ok (.getfield 9, 3) := by decide +kernel
theorem dX0_moveLeft_56 : decode cX0_moveLeft 56 = .ok (.iload_n 1, 1) := by decide +kernel
theorem dX0_moveLeft_57 : decode cX0_moveLeft 57 = .ok (.iload 4, 2) := by decide +kernel
theorem dX0_moveLeft_59 : decode cX0_moveLeft 59 = .ok (.invokestatic 40, 3) := by decide +kernel
theorem dX0_moveLeft_62 : decode cX0_moveLeft 62 = .ok (.aload_n 0, 1) := by decide +kernel
theorem dX0_moveLeft_63 : decode cX0_moveLeft 63 = .ok (.getfield 9, 3) := by decide +kernel
theorem dX0_moveLeft_66 : decode cX0_moveLeft 66 = .ok (.iload_n 1, 1) := by decide +kernel
theorem dX0_moveLeft_67 : decode cX0_moveLeft 67 = .ok (.iload 4, 2) := by decide +kernel
theorem dX0_moveLeft_69 : decode cX0_moveLeft 69 = .ok (.iconst 1, 1) := by decide +kernel
theorem dX0_moveLeft_70 : decode cX0_moveLeft 70 = .ok (.isub, 1) := by decide +kernel
theorem dX0_moveLeft_71 : decode cX0_moveLeft 71 = .ok (.invokestatic 40, 3) := by decide +kernel
theorem dX0_moveLeft_74 : decode cX0_moveLeft 74 = .ok (.iaload, 1) := by decide +kernel
theorem dX0_moveLeft_75 : decode cX0_moveLeft 75 = .ok (.iastore, 1) := by decide +kernel
theorem dX0_moveLeft_76 : decode cX0_moveLeft 76 = .ok (.aload_n 0, 1) := by decide +kernel
theorem dX0_moveLeft_77 : decode cX0_moveLeft 77 = .ok (.getfield 9, 3) := by decide +kernel
theorem dX0_moveLeft_80 : decode cX0_moveLeft 80 = .ok (.iload_n 1, 1) := by decide +kernel
theorem dX0_moveLeft_81 : decode cX0_moveLeft 81 = .ok (.iload 4, 2) := by decide +kernel
theorem dX0_moveLeft_83 : decode cX0_moveLeft 83 = .ok (.iconst 1, 1) := by decide +kernel
theorem dX0_moveLeft_84 : decode cX0_moveLeft 84 = .ok (.isub, 1) := by decide +kernel
theorem dX0_moveLeft_85 : decode cX0_moveLeft 85 = .ok (.invokestatic 40, 3) := by decide +kernel
theorem dX0_moveLeft_88 : decode cX0_moveLeft 88 = .ok (.iload 5, 2) := by decide +kernel
theorem dX0_moveLeft_90 : decode cX0_moveLeft 90 = .ok (.iastore, 1) := by decide +kernel
theorem dX0_moveLeft_91 : decode cX0_moveLeft 91 = .ok (.iinc 4 (-1), 3) := by decide +kernel
theorem dX0_moveLeft_94 : decode cX0_moveLeft 94 = .ok (.goto (-91), 3) := by decide +kernel
theorem dX0_moveLeft_97 : decode cX0_moveLeft 97 = .ok (.iload_n 2, 1) := by decide +kernel
theorem dX0_moveLeft_98 : decode cX0_moveLeft 98 = .ok (.iload 4, 2) := by decide +kernel
theorem dX0_moveLeft_100 : decode cX0_moveLeft 100 = .ok (.isub, 1) := by decide +kernel
theorem dX0_moveLeft_101 : decode cX0_moveLeft 101 = .ok (.ireturn, 1) := by decide +kernel
set_option maxRecDepth 20000 in
theorem ggX0_countMissing_X0_spot : GoodIn wsX0_countMissing wsX0_spot := goodIn_r _ [5] (by decide +kernel) (by decide +kernel)
set_option maxRecDepth 20000 in
theorem gX0_countMissing_X0_spot : GoodIn wsX0_countMissing (va_wsS RX0 40 yX0_spot wsX0_spot) := goodIn_app (goodIn_of _ (by decide +kernel)) ggX0_countMissing_X0_spot
set_option maxRecDepth 20000 in
theorem ggX0_countMissing_X0_isTrue : GoodIn wsX0_countMissing wsX0_isTrue := goodIn_r _ [8, 9] (by decide +kernel) (by decide +kernel)
set_option maxRecDepth 20000 in
theorem gX0_countMissing_X0_isTrue : GoodIn wsX0_countMissing (va_wsS RX0 69 yX0_isTrue wsX0_isTrue) := goodIn_app (goodIn_of _ (by decide +kernel)) ggX0_countMissing_X0_isTrue
theorem dX0_countMissing_0 : decode cX0_countMissing 0 = .ok (.iconst 0, 1) := by decide +kernel
theorem dX0_countMissing_1 : decode cX0_countMissing 1 = .ok (.istore_n 2, 1) := by decide +kernel
theorem dX0_countMissing_2 : decode cX0_countMissing 2 = .ok (.iconst 0, 1) := by decide +kernel
theorem dX0_countMissing_3 : decode cX0_countMissing 3 = .ok (.istore_n 3, 1) := by decide +kernel
theorem dX0_countMissing_4 : decode cX0_countMissing 4 = .ok (.iload_n 3, 1) := by decide +kernel
theorem dX0_countMissing_5 : decode cX0_countMissing 5 = .ok (.bipush 12, 2) := by decide +kernel
theorem dX0_countMissing_7 : decode cX0_countMissing 7 = .ok (.if_icmp .ge 35, 3) := by decide +kernel
theorem dX0_countMissing_10 : decode cX0_countMissing 10 = .ok (.aload_n 0, 1) := by decide +kernel
theorem dX0_countMissing_11 : decode cX0_countMissing 11 = .ok (.getfield 9, 3) := by decide +kernel
theorem dX0_countMissing_14 : decode cX0_countMissing 14 = .ok (.iload_n 1, 1) := by decide +kernel
theorem dX0_countMissing_15 : decode cX0_countMissing 15 = .ok (.iload_n 3, 1) := by decide +kernel
theorem dX0_countMissing_16 : decode cX0_countMissing 16 = .ok (.invokestatic 40, 3) := by decide +kernel
theorem dX0_countMissing_19 : decode cX0_countMissing 19 = .ok (.iaload, 1) := by decide +kernel
theorem dX0_countMissing_20 : decode cX0_countMissing 20 = .ok (.istore 4, 2) := by decide +kernel
theorem dX0_countMissing_22 : decode cX0_countMissing 22 = .ok (.iconst 5, 1) := by decide +kernel
theorem dX0_countMissing_23 : decode cX0_countMissing 23 = .ok (.iload 4, 2) := by decide +kernel
theorem dX0_countMissing_25 : decode cX0_countMissing 25 = .ok (.iload 4, 2) := by decide +kernel
theorem dX0_countMissing_27 : decode cX0_countMissing 27 = .ok (.invokestatic 69, 3) := by decide +kernel
theorem dX0_countMissing_30 : decode cX0_countMissing 30 = .ok (.ifCond .eq 6, 3) := by decide +kernel
theorem dX0_countMissing_33 : decode cX0_countMissing 33 = .ok (.iinc 2 1, 3) := by decide +kernel
theorem dX0_countMissing_36 : decode cX0_countMissing 36 = .ok (.iinc 3 1, 3) := by decide +kernel
theorem dX0_countMissing_39 : decode cX0_countMissing 39 = .ok (.goto (-35), 3) := by decide +kernel
theorem dX0_countMissing_42 : decode cX0_countMissing 42 = .ok (.iload_n 2, 1) := by decide +kernel
theorem dX0_countMissing_43 : decode cX0_countMissing 43 = .ok (.ireturn, 1) := by decide +kernel
set_option maxRecDepth 20000 in
theorem ggX0_opens_X0_isTrue : GoodIn wsX0_opens wsX0_isTrue := goodIn_r _ [4, 5] (by decide +kernel) (by decide +kernel)
set_option maxRecDepth 20000 in
theorem gX0_opens_X0_isTrue : GoodIn wsX0_opens (va_wsS RX0 69 yX0_isTrue wsX0_isTrue) := goodIn_app (goodIn_of _ (by decide +kernel)) ggX0_opens_X0_isTrue
theorem dX0_opens_0 : decode cX0_opens 0 = .ok (.iload_n 2, 1) := by decide +kernel
theorem dX0_opens_1 : decode cX0_opens 1 = .ok (.ifCond .eq 20, 3) := by decide +kernel
theorem dX0_opens_4 : decode cX0_opens 4 = .ok (.iconst 0, 1) := by decide +kernel
theorem dX0_opens_5 : decode cX0_opens 5 = .ok (.iload_n 0, 1) := by decide +kernel
theorem dX0_opens_6 : decode cX0_opens 6 = .ok (.iload_n 1, 1) := by decide +kernel
theorem dX0_opens_7 : decode cX0_opens 7 = .ok (.invokestatic 69, 3) := by decide +kernel
theorem dX0_opens_10 : decode cX0_opens 10 = .ok (.ifCond .ne 7, 3) := by decide +kernel
theorem dX0_opens_13 : decode cX0_opens 13 = .ok (.iconst 1, 1) := by decide +kernel
theorem dX0_opens_14 : decode cX0_opens 14 = .ok (.goto 13, 3) := by decide +kernel
theorem dX0_opens_17 : decode cX0_opens 17 = .ok (.iconst 0, 1) := by decide +kernel
theorem dX0_opens_18 : decode cX0_opens 18 = .ok (.goto 9, 3) := by decide +kernel
theorem dX0_opens_21 : decode cX0_opens 21 = .ok (.iconst 3, 1) := by decide +kernel
theorem dX0_opens_22 : decode cX0_opens 22 = .ok (.iload_n 0, 1) := by decide +kernel
theorem dX0_opens_23 : decode cX0_opens 23 = .ok (.iload_n 1, 1) := by decide +kernel
theorem dX0_opens_24 : decode cX0_opens 24 = .ok (.invokestatic 69, 3) := by decide +kernel
theorem dX0_opens_27 : decode cX0_opens 27 = .ok (.ireturn, 1) := by decide +kernel
theorem dX0_store_0 : decode cX0_store 0 = .ok (.aload_n 0, 1) := by decide +kernel
theorem dX0_store_1 : decode cX0_store 1 = .ok (.iload_n 1, 1) := by decide +kernel
theorem dX0_store_2 : decode cX0_store 2 = .ok (.iaload, 1) := by decide +kernel
theorem dX0_store_3 : decode cX0_store 3 = .ok (.iload_n 2, 1) := by decide +kernel
theorem dX0_store_4 : decode cX0_store 4 = .ok (.if_icmp .eq 7, 3) := by decide +kernel
theorem dX0_store_7 : decode cX0_store 7 = .ok (.iconst 1, 1) := by decide +kernel
theorem dX0_store_8 : decode cX0_store 8 = .ok (.goto 4, 3) := by decide +kernel
theorem dX0_store_11 : decode cX0_store 11 = .ok (.iconst 0, 1) := by decide +kernel
theorem dX0_store_12 : decode cX0_store 12 = .ok (.istore_n 3, 1) := by decide +kernel
theorem dX0_store_13 : decode cX0_store 13 = .ok (.aload_n 0, 1) := by decide +kernel
theorem dX0_store_14 : decode cX0_store 14 = .ok (.iload_n 1, 1) := by decide +kernel
theorem dX0_store_15 : decode cX0_store 15 = .ok (.iload_n 2, 1) := by decide +kernel
theorem dX0_store_16 : decode cX0_store 16 = .ok (.iastore, 1) := by decide +kernel
theorem dX0_store_17 : decode cX0_store 17 = .ok (.iload_n 3, 1) := by decide +kernel
theorem dX0_store_18 : decode cX0_store 18 = .ok (.ireturn, 1) := by decide +kernel
theorem dX0_spot_0 : decode cX0_spot 0 = .ok (.iload_n 0, 1) := by decide +kernel
theorem dX0_spot_1 : decode cX0_spot 1 = .ok (.bipush 12, 2) := by decide +kernel
theorem dX0_spot_3 : decode cX0_spot 3 = .ok (.imul, 1) := by decide +kernel
theorem dX0_spot_4 : decode cX0_spot 4 = .ok (.iload_n 1, 1) := by decide +kernel
theorem dX0_spot_5 : decode cX0_spot 5 = .ok (.iadd, 1) := by decide +kernel
theorem dX0_spot_6 : decode cX0_spot 6 = .ok (.ireturn, 1) := by decide +kernel
theorem dX0_levelSpot_0 : decode cX0_levelSpot 0 = .ok (.iload_n 0, 1) := by decide +kernel
theorem dX0_levelSpot_1 : decode cX0_levelSpot 1 = .ok (.iconst 2, 1) := by decide +kernel
theorem dX0_levelSpot_2 : decode cX0_levelSpot 2 = .ok (.imul, 1) := by decide +kernel
theorem dX0_levelSpot_3 : decode cX0_levelSpot 3 = .ok (.iload_n 1, 1) := by decide +kernel
theorem dX0_levelSpot_4 : decode cX0_levelSpot 4 = .ok (.ifCond .eq 7, 3) := by decide +kernel
theorem dX0_levelSpot_7 : decode cX0_levelSpot 7 = .ok (.iconst 1, 1) := by decide +kernel
theorem dX0_levelSpot_8 : decode cX0_levelSpot 8 = .ok (.goto 4, 3) := by decide +kernel
theorem dX0_levelSpot_11 : decode cX0_levelSpot 11 = .ok (.iconst 0, 1) := by decide +kernel
theorem dX0_levelSpot_12 : decode cX0_levelSpot 12 = .ok (.iadd, 1) := by decide +kernel
theorem dX0_levelSpot_13 : decode cX0_levelSpot 13 = .ok (.ireturn, 1) := by decide +kernel
theorem dX0_isRough_0 : decode cX0_isRough 0 = .ok (.iload_n 0, 1) := by decide +kernel
theorem dX0_isRough_1 : decode cX0_isRough 1 = .ok (.iconst 4, 1) := by decide +kernel
theorem dX0_isRough_2 : decode cX0_isRough 2 = .ok (.if_icmp .lt 7, 3) := by decide +kernel
theorem dX0_isRough_5 : decode cX0_isRough 5 = .ok (.iconst 1, 1) := by decide +kernel
theorem dX0_isRough_6 : decode cX0_isRough 6 = .ok (.goto 4, 3) := by decide +kernel
theorem dX0_isRough_9 : decode cX0_isRough 9 = .ok (.iconst 0, 1) := by decide +kernel
theorem dX0_isRough_10 : decode cX0_isRough 10 = .ok (.ireturn, 1) := by decide +kernel
set_option maxRecDepth 20000 in
theorem ggX0_levelFor_X0_isRough : GoodIn wsX0_levelFor wsX0_isRough := goodIn_r _ [5] (by decide +kernel) (by decide +kernel)
set_option maxRecDepth 20000 in
theorem gX0_levelFor_X0_isRough : GoodIn wsX0_levelFor (va_wsS RX0 103 yX0_isRough wsX0_isRough) := goodIn_app (goodIn_of _ (by decide +kernel)) ggX0_levelFor_X0_isRough
set_option maxRecDepth 20000 in
theorem ggX0_levelFor_X0_levelSpot : GoodIn wsX0_levelFor wsX0_levelSpot := goodIn_r _ [8] (by decide +kernel) (by decide +kernel)
set_option maxRecDepth 20000 in
theorem gX0_levelFor_X0_levelSpot : GoodIn wsX0_levelFor (va_wsS RX0 51 yX0_levelSpot wsX0_levelSpot) := goodIn_app (goodIn_of _ (by decide +kernel)) ggX0_levelFor_X0_levelSpot
theorem dX0_levelFor_0 : decode cX0_levelFor 0 = .ok (.aload_n 0, 1) := by decide +kernel
theorem dX0_levelFor_1 : decode cX0_levelFor 1 = .ok (.getfield 13, 3) := by decide +kernel
theorem dX0_levelFor_4 : decode cX0_levelFor 4 = .ok (.iload_n 1, 1) := by decide +kernel
theorem dX0_levelFor_5 : decode cX0_levelFor 5 = .ok (.iload_n 2, 1) := by decide +kernel
theorem dX0_levelFor_6 : decode cX0_levelFor 6 = .ok (.invokestatic 103, 3) := by decide +kernel
theorem dX0_levelFor_9 : decode cX0_levelFor 9 = .ok (.invokestatic 51, 3) := by decide +kernel
theorem dX0_levelFor_12 : decode cX0_levelFor 12 = .ok (.iaload, 1) := by decide +kernel
theorem dX0_levelFor_13 : decode cX0_levelFor 13 = .ok (.ireturn, 1) := by decide +kernel
theorem dX0_needRow_0 : decode cX0_needRow 0 = .ok (.iload_n 0, 1) := by decide +kernel
theorem dX0_needRow_1 : decode cX0_needRow 1 = .ok (.ifCond .lt 9, 3) := by decide +kernel
theorem dX0_needRow_4 : decode cX0_needRow 4 = .ok (.iload_n 0, 1) := by decide +kernel
theorem dX0_needRow_5 : decode cX0_needRow 5 = .ok (.bipush 8, 2) := by decide +kernel
theorem dX0_needRow_7 : decode cX0_needRow 7 = .ok (.if_icmp .lt 13, 3) := by decide +kernel
theorem dX0_needRow_10 : decode cX0_needRow 10 = .ok (.new 107, 3) := by decide +kernel
theorem dX0_needRow_13 : decode cX0_needRow 13 = .ok (.dup, 1) := by decide +kernel
theorem dX0_needRow_14 : decode cX0_needRow 14 = .ok (.ldc 109, 2) := by decide +kernel
theorem dX0_needRow_16 : decode cX0_needRow 16 = .ok (.invokespecial 111, 3) := by decide +kernel
theorem dX0_needRow_19 : decode cX0_needRow 19 = .ok (.athrow, 1) := by decide +kernel
theorem dX0_needRow_20 : decode cX0_needRow 20 = .ok (.return_, 1) := by decide +kernel
theorem dX0_needPlace_0 : decode cX0_needPlace 0 = .ok (.iload_n 0, 1) := by decide +kernel
theorem dX0_needPlace_1 : decode cX0_needPlace 1 = .ok (.ifCond .lt 9, 3) := by decide +kernel
theorem dX0_needPlace_4 : decode cX0_needPlace 4 = .ok (.iload_n 0, 1) := by decide +kernel
theorem dX0_needPlace_5 : decode cX0_needPlace 5 = .ok (.bipush 12, 2) := by decide +kernel
theorem dX0_needPlace_7 : decode cX0_needPlace 7 = .ok (.if_icmp .lt 13, 3) := by decide +kernel
theorem dX0_needPlace_10 : decode cX0_needPlace 10 = .ok (.new 107, 3) := by decide +kernel
theorem dX0_needPlace_13 : decode cX0_needPlace 13 = .ok (.dup, 1) := by decide +kernel
theorem dX0_needPlace_14 : decode cX0_needPlace 14 = .ok (.ldc 112, 2) := by decide +kernel
theorem dX0_needPlace_16 : decode cX0_needPlace 16 = .ok (.invokespecial 111, 3) := by decide +kernel
theorem dX0_needPlace_19 : decode cX0_needPlace 19 = .ok (.athrow, 1) := by decide +kernel
theorem dX0_needPlace_20 : decode cX0_needPlace 20 = .ok (.return_, 1) := by decide +kernel
theorem dX0_needGate_0 : decode cX0_needGate 0 = .ok (.iload_n 0, 1) := by decide +kernel
theorem dX0_needGate_1 : decode cX0_needGate 1 = .ok (.ifCond .lt 8, 3) := by decide +kernel
theorem dX0_needGate_4 : decode cX0_needGate 4 = .ok (.iload_n 0, 1) := by decide +kernel
theorem dX0_needGate_5 : decode cX0_needGate 5 = .ok (.iconst 4, 1) := by decide +kernel
theorem dX0_needGate_6 : decode cX0_needGate 6 = .ok (.if_icmp .lt 13, 3) := by decide +kernel
theorem dX0_needGate_9 : decode cX0_needGate 9 = .ok (.new 107, 3) := by decide +kernel
theorem dX0_needGate_12 : decode cX0_needGate 12 = .ok (.dup, 1) := by decide +kernel
theorem dX0_needGate_13 : decode cX0_needGate 13 = .ok (.ldc 114, 2) := by decide +kernel
theorem dX0_needGate_15 : decode cX0_needGate 15 = .ok (.invokespecial 111, 3) := by decide +kernel
theorem dX0_needGate_18 : decode cX0_needGate 18 = .ok (.athrow, 1) := by decide +kernel
theorem dX0_needGate_19 : decode cX0_needGate 19 = .ok (.return_, 1) := by decide +kernel
theorem dX0_needSign_0 : decode cX0_needSign 0 = .ok (.iload_n 0, 1) := by decide +kernel
theorem dX0_needSign_1 : decode cX0_needSign 1 = .ok (.ifCond .lt 8, 3) := by decide +kernel
theorem dX0_needSign_4 : decode cX0_needSign 4 = .ok (.iload_n 0, 1) := by decide +kernel
theorem dX0_needSign_5 : decode cX0_needSign 5 = .ok (.iconst 5, 1) := by decide +kernel
theorem dX0_needSign_6 : decode cX0_needSign 6 = .ok (.if_icmp .le 13, 3) := by decide +kernel
theorem dX0_needSign_9 : decode cX0_needSign 9 = .ok (.new 116, 3) := by decide +kernel
theorem dX0_needSign_12 : decode cX0_needSign 12 = .ok (.dup, 1) := by decide +kernel
theorem dX0_needSign_13 : decode cX0_needSign 13 = .ok (.ldc 118, 2) := by decide +kernel
theorem dX0_needSign_15 : decode cX0_needSign 15 = .ok (.invokespecial 120, 3) := by decide +kernel
theorem dX0_needSign_18 : decode cX0_needSign 18 = .ok (.athrow, 1) := by decide +kernel
theorem dX0_needSign_19 : decode cX0_needSign 19 = .ok (.return_, 1) := by decide +kernel
theorem dX0_needNumber_0 : decode cX0_needNumber 0 = .ok (.iload_n 0, 1) := by decide +kernel
theorem dX0_needNumber_1 : decode cX0_needNumber 1 = .ok (.ldc 23, 2) := by decide +kernel
theorem dX0_needNumber_3 : decode cX0_needNumber 3 = .ok (.if_icmp .eq 25, 3) := by decide +kernel
theorem dX0_needNumber_6 : decode cX0_needNumber 6 = .ok (.iload_n 0, 1) := by decide +kernel
theorem dX0_needNumber_7 : decode cX0_needNumber 7 = .ok (.ldc 121, 2) := by decide +kernel
theorem dX0_needNumber_9 : decode cX0_needNumber 9 = .ok (.if_icmp .lt 9, 3) := by decide +kernel
theorem dX0_needNumber_12 : decode cX0_needNumber 12 = .ok (.iload_n 0, 1) := by decide +kernel
theorem dX0_needNumber_13 : decode cX0_needNumber 13 = .ok (.ldc 122, 2) := by decide +kernel
theorem dX0_needNumber_15 : decode cX0_needNumber 15 = .ok (.if_icmp .le 13, 3) := by decide +kernel
theorem dX0_needNumber_18 : decode cX0_needNumber 18 = .ok (.new 116, 3) := by decide +kernel
theorem dX0_needNumber_21 : decode cX0_needNumber 21 = .ok (.dup, 1) := by decide +kernel
theorem dX0_needNumber_22 : decode cX0_needNumber 22 = .ok (.ldc 123, 2) := by decide +kernel
theorem dX0_needNumber_24 : decode cX0_needNumber 24 = .ok (.invokespecial 120, 3) := by decide +kernel
theorem dX0_needNumber_27 : decode cX0_needNumber 27 = .ok (.athrow, 1) := by decide +kernel
theorem dX0_needNumber_28 : decode cX0_needNumber 28 = .ok (.return_, 1) := by decide +kernel
set_option maxRecDepth 20000 in
theorem ggX0_needOneSort_X0_isRough : GoodIn wsX0_needOneSort wsX0_isRough := goodIn_r _ [6] (by decide +kernel) (by decide +kernel)
set_option maxRecDepth 20000 in
theorem gX0_needOneSort_X0_isRough : GoodIn wsX0_needOneSort (va_wsS RX0 103 yX0_isRough wsX0_isRough) := goodIn_app (goodIn_of _ (by decide +kernel)) ggX0_needOneSort_X0_isRough
theorem dX0_needOneSort_0 : decode cX0_needOneSort 0 = .ok (.iload_n 0, 1) := by decide +kernel
theorem dX0_needOneSort_1 : decode cX0_needOneSort 1 = .ok (.invokestatic 103, 3) := by decide +kernel
theorem dX0_needOneSort_4 : decode cX0_needOneSort 4 = .ok (.iload_n 1, 1) := by decide +kernel
theorem dX0_needOneSort_5 : decode cX0_needOneSort 5 = .ok (.invokestatic 103, 3) := by decide +kernel
theorem dX0_needOneSort_8 : decode cX0_needOneSort 8 = .ok (.if_icmp .eq 13, 3) := by decide +kernel
theorem dX0_needOneSort_11 : decode cX0_needOneSort 11 = .ok (.new 116, 3) := by decide +kernel
theorem dX0_needOneSort_14 : decode cX0_needOneSort 14 = .ok (.dup, 1) := by decide +kernel
theorem dX0_needOneSort_15 : decode cX0_needOneSort 15 = .ok (.ldc 125, 2) := by decide +kernel
theorem dX0_needOneSort_17 : decode cX0_needOneSort 17 = .ok (.invokespecial 120, 3) := by decide +kernel
theorem dX0_needOneSort_20 : decode cX0_needOneSort 20 = .ok (.athrow, 1) := by decide +kernel
theorem dX0_needOneSort_21 : decode cX0_needOneSort 21 = .ok (.return_, 1) := by decide +kernel
theorem dX0_needApart_0 : decode cX0_needApart 0 = .ok (.iload_n 0, 1) := by decide +kernel
theorem dX0_needApart_1 : decode cX0_needApart 1 = .ok (.iload_n 1, 1) := by decide +kernel
theorem dX0_needApart_2 : decode cX0_needApart 2 = .ok (.if_icmp .ne 13, 3) := by decide +kernel
theorem dX0_needApart_5 : decode cX0_needApart 5 = .ok (.new 116, 3) := by decide +kernel
theorem dX0_needApart_8 : decode cX0_needApart 8 = .ok (.dup, 1) := by decide +kernel
theorem dX0_needApart_9 : decode cX0_needApart 9 = .ok (.ldc 127, 2) := by decide +kernel
theorem dX0_needApart_11 : decode cX0_needApart 11 = .ok (.invokespecial 120, 3) := by decide +kernel
theorem dX0_needApart_14 : decode cX0_needApart 14 = .ok (.athrow, 1) := by decide +kernel
theorem dX0_needApart_15 : decode cX0_needApart 15 = .ok (.return_, 1) := by decide +kernel
