set_option maxRecDepth 20000 in
theorem ggL_put_X0_put : GoodIn wsL_put wsX0_put := goodIn_ca (goodIn_ca (goodIn_r _ [7, 8, 9, 10, 6, 11, 12, 13, 14, 15, 16, 17, 18, 19, 20, 21, 22, 23, 24, 25, 26, 27, 28, 29, 30, 31, 32, 33, 34] (by decide +kernel) (by decide +kernel)) (goodIn_sub (fun _ h => List.mem_cons_of_mem _ (List.mem_append_left _ (List.mem_append_right _ h))) (by decide +kernel))) (goodIn_sub (fun _ h => List.mem_cons_of_mem _ (List.mem_append_right _ h)) (by decide +kernel))
set_option maxRecDepth 20000 in
theorem gL_put_X0_put : GoodIn wsL_put (wsV RL 7 RX0 yX0_put wsX0_put) := goodIn_app (goodIn_of _ (by decide +kernel)) ggL_put_X0_put
theorem dL_put_0 : decode cL_put 0 = .ok (.aload 4, 2) := by decide +kernel
theorem dL_put_2 : decode cL_put 2 = .ok (.iconst 0, 1) := by decide +kernel
theorem dL_put_3 : decode cL_put 3 = .ok (.aload_n 0, 1) := by decide +kernel
theorem dL_put_4 : decode cL_put 4 = .ok (.iload_n 1, 1) := by decide +kernel
theorem dL_put_5 : decode cL_put 5 = .ok (.iload_n 2, 1) := by decide +kernel
theorem dL_put_6 : decode cL_put 6 = .ok (.iload_n 3, 1) := by decide +kernel
theorem dL_put_7 : decode cL_put 7 = .ok (.invokevirtual 7, 3) := by decide +kernel
theorem dL_put_10 : decode cL_put 10 = .ok (.ifCond .eq 7, 3) := by decide +kernel
theorem dL_put_13 : decode cL_put 13 = .ok (.lconst 1, 1) := by decide +kernel
theorem dL_put_14 : decode cL_put 14 = .ok (.goto 4, 3) := by decide +kernel
theorem dL_put_17 : decode cL_put 17 = .ok (.lconst 0, 1) := by decide +kernel
theorem dL_put_18 : decode cL_put 18 = .ok (.lastore, 1) := by decide +kernel
theorem dL_put_19 : decode cL_put 19 = .ok (.goto 11, 3) := by decide +kernel
theorem dL_put_22 : decode cL_put 22 = .ok (.astore 5, 2) := by decide +kernel
theorem dL_put_24 : decode cL_put 24 = .ok (.iconst 1, 1) := by decide +kernel
theorem dL_put_25 : decode cL_put 25 = .ok (.ireturn, 1) := by decide +kernel
theorem dL_put_26 : decode cL_put 26 = .ok (.astore 5, 2) := by decide +kernel
theorem dL_put_28 : decode cL_put 28 = .ok (.iconst 2, 1) := by decide +kernel
theorem dL_put_29 : decode cL_put 29 = .ok (.ireturn, 1) := by decide +kernel
theorem dL_put_30 : decode cL_put 30 = .ok (.iconst 0, 1) := by decide +kernel
theorem dL_put_31 : decode cL_put 31 = .ok (.ireturn, 1) := by decide +kernel
set_option maxRecDepth 20000 in
theorem ggL_reading_X0_reading : GoodIn wsL_reading wsX0_reading := goodIn_ca (goodIn_r _ [6, 7, 8, 9, 5, 10, 11, 12, 13, 14, 15, 16, 17, 18, 19, 20, 21, 22] (by decide +kernel) (by decide +kernel)) (goodIn_sub (fun _ h => List.mem_cons_of_mem _ (List.mem_append_right _ h)) (by decide +kernel))
set_option maxRecDepth 20000 in
theorem gL_reading_X0_reading : GoodIn wsL_reading (wsV RL 17 RX0 yX0_reading wsX0_reading) := goodIn_app (goodIn_of _ (by decide +kernel)) ggL_reading_X0_reading
theorem dL_reading_0 : decode cL_reading 0 = .ok (.aload_n 3, 1) := by decide +kernel
theorem dL_reading_1 : decode cL_reading 1 = .ok (.iconst 0, 1) := by decide +kernel
theorem dL_reading_2 : decode cL_reading 2 = .ok (.aload_n 0, 1) := by decide +kernel
theorem dL_reading_3 : decode cL_reading 3 = .ok (.iload_n 1, 1) := by decide +kernel
theorem dL_reading_4 : decode cL_reading 4 = .ok (.iload_n 2, 1) := by decide +kernel
theorem dL_reading_5 : decode cL_reading 5 = .ok (.invokevirtual 17, 3) := by decide +kernel
theorem dL_reading_8 : decode cL_reading 8 = .ok (.i2l, 1) := by decide +kernel
theorem dL_reading_9 : decode cL_reading 9 = .ok (.lastore, 1) := by decide +kernel
theorem dL_reading_10 : decode cL_reading 10 = .ok (.goto 7, 3) := by decide +kernel
theorem dL_reading_13 : decode cL_reading 13 = .ok (.astore 4, 2) := by decide +kernel
theorem dL_reading_15 : decode cL_reading 15 = .ok (.iconst 1, 1) := by decide +kernel
theorem dL_reading_16 : decode cL_reading 16 = .ok (.ireturn, 1) := by decide +kernel
theorem dL_reading_17 : decode cL_reading 17 = .ok (.iconst 0, 1) := by decide +kernel
theorem dL_reading_18 : decode cL_reading 18 = .ok (.ireturn, 1) := by decide +kernel
set_option maxRecDepth 20000 in
theorem ggL_level_X0_level : GoodIn wsL_level wsX0_level := goodIn_ca (goodIn_ca (goodIn_r _ [7, 8, 9, 10, 6, 11, 12, 13, 14, 15, 16, 17, 18, 19, 20, 21, 22, 23, 24, 25, 26, 27, 28, 29, 30, 31] (by decide +kernel) (by decide +kernel)) (goodIn_sub (fun _ h => List.mem_cons_of_mem _ (List.mem_append_left _ (List.mem_append_right _ h))) (by decide +kernel))) (goodIn_sub (fun _ h => List.mem_cons_of_mem _ (List.mem_append_right _ h)) (by decide +kernel))
set_option maxRecDepth 20000 in
theorem gL_level_X0_level : GoodIn wsL_level (wsV RL 21 RX0 yX0_level wsX0_level) := goodIn_app (goodIn_of _ (by decide +kernel)) ggL_level_X0_level
theorem dL_level_0 : decode cL_level 0 = .ok (.aload 4, 2) := by decide +kernel
theorem dL_level_2 : decode cL_level 2 = .ok (.iconst 0, 1) := by decide +kernel
theorem dL_level_3 : decode cL_level 3 = .ok (.aload_n 0, 1) := by decide +kernel
theorem dL_level_4 : decode cL_level 4 = .ok (.iload_n 1, 1) := by decide +kernel
theorem dL_level_5 : decode cL_level 5 = .ok (.iload_n 2, 1) := by decide +kernel
theorem dL_level_6 : decode cL_level 6 = .ok (.iload_n 3, 1) := by decide +kernel
theorem dL_level_7 : decode cL_level 7 = .ok (.invokevirtual 21, 3) := by decide +kernel
theorem dL_level_10 : decode cL_level 10 = .ok (.ifCond .eq 7, 3) := by decide +kernel
theorem dL_level_13 : decode cL_level 13 = .ok (.lconst 1, 1) := by decide +kernel
theorem dL_level_14 : decode cL_level 14 = .ok (.goto 4, 3) := by decide +kernel
theorem dL_level_17 : decode cL_level 17 = .ok (.lconst 0, 1) := by decide +kernel
theorem dL_level_18 : decode cL_level 18 = .ok (.lastore, 1) := by decide +kernel
theorem dL_level_19 : decode cL_level 19 = .ok (.goto 11, 3) := by decide +kernel
theorem dL_level_22 : decode cL_level 22 = .ok (.astore 5, 2) := by decide +kernel
theorem dL_level_24 : decode cL_level 24 = .ok (.iconst 1, 1) := by decide +kernel
theorem dL_level_25 : decode cL_level 25 = .ok (.ireturn, 1) := by decide +kernel
theorem dL_level_26 : decode cL_level 26 = .ok (.astore 5, 2) := by decide +kernel
theorem dL_level_28 : decode cL_level 28 = .ok (.iconst 2, 1) := by decide +kernel
theorem dL_level_29 : decode cL_level 29 = .ok (.ireturn, 1) := by decide +kernel
theorem dL_level_30 : decode cL_level 30 = .ok (.iconst 0, 1) := by decide +kernel
theorem dL_level_31 : decode cL_level 31 = .ok (.ireturn, 1) := by decide +kernel
set_option maxRecDepth 20000 in
theorem ggL_copy_X0_copy : GoodIn wsL_copy wsX0_copy := goodIn_ca (goodIn_ca (goodIn_r _ [7, 8, 9, 10, 6, 11, 12, 13, 14, 15, 16, 17, 18, 19, 20, 21, 22, 23, 24, 25, 26, 27, 28, 29, 30, 31, 32, 33, 34, 35, 36] (by decide +kernel) (by decide +kernel)) (goodIn_sub (fun _ h => List.mem_cons_of_mem _ (List.mem_append_left _ (List.mem_append_right _ h))) (by decide +kernel))) (goodIn_sub (fun _ h => List.mem_cons_of_mem _ (List.mem_append_right _ h)) (by decide +kernel))
set_option maxRecDepth 20000 in
theorem gL_copy_X0_copy : GoodIn wsL_copy (wsV RL 25 RX0 yX0_copy wsX0_copy) := goodIn_app (goodIn_of _ (by decide +kernel)) ggL_copy_X0_copy
theorem dL_copy_0 : decode cL_copy 0 = .ok (.aload_n 3, 1) := by decide +kernel
theorem dL_copy_1 : decode cL_copy 1 = .ok (.iconst 0, 1) := by decide +kernel
theorem dL_copy_2 : decode cL_copy 2 = .ok (.aload_n 0, 1) := by decide +kernel
theorem dL_copy_3 : decode cL_copy 3 = .ok (.iload_n 1, 1) := by decide +kernel
theorem dL_copy_4 : decode cL_copy 4 = .ok (.iload_n 2, 1) := by decide +kernel
theorem dL_copy_5 : decode cL_copy 5 = .ok (.invokevirtual 25, 3) := by decide +kernel
theorem dL_copy_8 : decode cL_copy 8 = .ok (.i2l, 1) := by decide +kernel
theorem dL_copy_9 : decode cL_copy 9 = .ok (.lastore, 1) := by decide +kernel
theorem dL_copy_10 : decode cL_copy 10 = .ok (.goto 11, 3) := by decide +kernel
theorem dL_copy_13 : decode cL_copy 13 = .ok (.astore 4, 2) := by decide +kernel
theorem dL_copy_15 : decode cL_copy 15 = .ok (.iconst 1, 1) := by decide +kernel
theorem dL_copy_16 : decode cL_copy 16 = .ok (.ireturn, 1) := by decide +kernel
theorem dL_copy_17 : decode cL_copy 17 = .ok (.astore 4, 2) := by decide +kernel
theorem dL_copy_19 : decode cL_copy 19 = .ok (.iconst 2, 1) := by decide +kernel
theorem dL_copy_20 : decode cL_copy 20 = .ok (.ireturn, 1) := by decide +kernel
theorem dL_copy_21 : decode cL_copy 21 = .ok (.iconst 0, 1) := by decide +kernel
theorem dL_copy_22 : decode cL_copy 22 = .ok (.ireturn, 1) := by decide +kernel
set_option maxRecDepth 20000 in
theorem ggL_straight_X0_straight : GoodIn wsL_straight wsX0_straight := goodIn_ca (goodIn_ca (goodIn_r _ [7, 8, 9, 10, 6, 11, 12, 13, 14, 15, 16, 17, 18, 19, 20, 21, 22, 23, 24, 25, 26, 27, 28, 29, 30, 31, 32, 33, 34, 35, 36, 37, 38, 39, 40, 41, 42, 43] (by decide +kernel) (by decide +kernel)) (goodIn_sub (fun _ h => List.mem_cons_of_mem _ (List.mem_append_left _ (List.mem_append_right _ h))) (by decide +kernel))) (goodIn_sub (fun _ h => List.mem_cons_of_mem _ (List.mem_append_right _ h)) (by decide +kernel))
set_option maxRecDepth 20000 in
theorem gL_straight_X0_straight : GoodIn wsL_straight (wsV RL 28 RX0 yX0_straight wsX0_straight) := goodIn_app (goodIn_of _ (by decide +kernel)) ggL_straight_X0_straight
theorem dL_straight_0 : decode cL_straight 0 = .ok (.aload 4, 2) := by decide +kernel
theorem dL_straight_2 : decode cL_straight 2 = .ok (.iconst 0, 1) := by decide +kernel
theorem dL_straight_3 : decode cL_straight 3 = .ok (.aload_n 0, 1) := by decide +kernel
theorem dL_straight_4 : decode cL_straight 4 = .ok (.iload_n 1, 1) := by decide +kernel
theorem dL_straight_5 : decode cL_straight 5 = .ok (.iload_n 2, 1) := by decide +kernel
theorem dL_straight_6 : decode cL_straight 6 = .ok (.iload_n 3, 1) := by decide +kernel
theorem dL_straight_7 : decode cL_straight 7 = .ok (.invokevirtual 28, 3) := by decide +kernel
theorem dL_straight_10 : decode cL_straight 10 = .ok (.i2l, 1) := by decide +kernel
theorem dL_straight_11 : decode cL_straight 11 = .ok (.lastore, 1) := by decide +kernel
theorem dL_straight_12 : decode cL_straight 12 = .ok (.goto 11, 3) := by decide +kernel
theorem dL_straight_15 : decode cL_straight 15 = .ok (.astore 5, 2) := by decide +kernel
theorem dL_straight_17 : decode cL_straight 17 = .ok (.iconst 1, 1) := by decide +kernel
theorem dL_straight_18 : decode cL_straight 18 = .ok (.ireturn, 1) := by decide +kernel
theorem dL_straight_19 : decode cL_straight 19 = .ok (.astore 5, 2) := by decide +kernel
theorem dL_straight_21 : decode cL_straight 21 = .ok (.iconst 2, 1) := by decide +kernel
theorem dL_straight_22 : decode cL_straight 22 = .ok (.ireturn, 1) := by decide +kernel
theorem dL_straight_23 : decode cL_straight 23 = .ok (.iconst 0, 1) := by decide +kernel
theorem dL_straight_24 : decode cL_straight 24 = .ok (.ireturn, 1) := by decide +kernel
set_option maxRecDepth 20000 in
theorem ggL_turned_X0_turned : GoodIn wsL_turned wsX0_turned := goodIn_ca (goodIn_ca (goodIn_r _ [7, 8, 9, 10, 6, 11, 12, 13, 14, 15, 16, 17, 18, 19, 20, 21, 22, 23, 24, 25, 26, 27, 28, 29, 30, 31, 32, 33, 34, 35, 36, 37, 38, 39, 40, 41, 42, 43] (by decide +kernel) (by decide +kernel)) (goodIn_sub (fun _ h => List.mem_cons_of_mem _ (List.mem_append_left _ (List.mem_append_right _ h))) (by decide +kernel))) (goodIn_sub (fun _ h => List.mem_cons_of_mem _ (List.mem_append_right _ h)) (by decide +kernel))
set_option maxRecDepth 20000 in
theorem gL_turned_X0_turned : GoodIn wsL_turned (wsV RL 32 RX0 yX0_turned wsX0_turned) := goodIn_app (goodIn_of _ (by decide +kernel)) ggL_turned_X0_turned
theorem dL_turned_0 : decode cL_turned 0 = .ok (.aload 4, 2) := by decide +kernel
theorem dL_turned_2 : decode cL_turned 2 = .ok (.iconst 0, 1) := by decide +kernel
theorem dL_turned_3 : decode cL_turned 3 = .ok (.aload_n 0, 1) := by decide +kernel
theorem dL_turned_4 : decode cL_turned 4 = .ok (.iload_n 1, 1) := by decide +kernel
theorem dL_turned_5 : decode cL_turned 5 = .ok (.iload_n 2, 1) := by decide +kernel
theorem dL_turned_6 : decode cL_turned 6 = .ok (.iload_n 3, 1) := by decide +kernel
theorem dL_turned_7 : decode cL_turned 7 = .ok (.invokevirtual 32, 3) := by decide +kernel
theorem dL_turned_10 : decode cL_turned 10 = .ok (.i2l, 1) := by decide +kernel
theorem dL_turned_11 : decode cL_turned 11 = .ok (.lastore, 1) := by decide +kernel
theorem dL_turned_12 : decode cL_turned 12 = .ok (.goto 11, 3) := by decide +kernel
theorem dL_turned_15 : decode cL_turned 15 = .ok (.astore 5, 2) := by decide +kernel
theorem dL_turned_17 : decode cL_turned 17 = .ok (.iconst 1, 1) := by decide +kernel
theorem dL_turned_18 : decode cL_turned 18 = .ok (.ireturn, 1) := by decide +kernel
theorem dL_turned_19 : decode cL_turned 19 = .ok (.astore 5, 2) := by decide +kernel
theorem dL_turned_21 : decode cL_turned 21 = .ok (.iconst 2, 1) := by decide +kernel
theorem dL_turned_22 : decode cL_turned 22 = .ok (.ireturn, 1) := by decide +kernel
theorem dL_turned_23 : decode cL_turned 23 = .ok (.iconst 0, 1) := by decide +kernel
theorem dL_turned_24 : decode cL_turned 24 = .ok (.ireturn, 1) := by decide +kernel
set_option maxRecDepth 20000 in
theorem ggL_between_X0_between : GoodIn wsL_between wsX0_between := goodIn_ca (goodIn_r _ [6, 7, 8, 9, 5, 10, 11, 12, 13, 14, 15, 16, 17, 18, 19, 20, 21, 22, 23, 24, 25, 26, 27, 28, 29, 30, 31, 32, 33, 34, 35, 36, 37] (by decide +kernel) (by decide +kernel)) (goodIn_sub (fun _ h => List.mem_cons_of_mem _ (List.mem_append_right _ h)) (by decide +kernel))
set_option maxRecDepth 20000 in
theorem gL_between_X0_between : GoodIn wsL_between (wsV RL 35 RX0 yX0_between wsX0_between) := goodIn_app (goodIn_of _ (by decide +kernel)) ggL_between_X0_between
theorem dL_between_0 : decode cL_between 0 = .ok (.aload 4, 2) := by decide +kernel
theorem dL_between_2 : decode cL_between 2 = .ok (.iconst 0, 1) := by decide +kernel
theorem dL_between_3 : decode cL_between 3 = .ok (.aload_n 0, 1) := by decide +kernel
theorem dL_between_4 : decode cL_between 4 = .ok (.iload_n 1, 1) := by decide +kernel
theorem dL_between_5 : decode cL_between 5 = .ok (.iload_n 2, 1) := by decide +kernel
theorem dL_between_6 : decode cL_between 6 = .ok (.iload_n 3, 1) := by decide +kernel
theorem dL_between_7 : decode cL_between 7 = .ok (.invokevirtual 35, 3) := by decide +kernel
theorem dL_between_10 : decode cL_between 10 = .ok (.i2l, 1) := by decide +kernel
theorem dL_between_11 : decode cL_between 11 = .ok (.lastore, 1) := by decide +kernel
theorem dL_between_12 : decode cL_between 12 = .ok (.goto 7, 3) := by decide +kernel
theorem dL_between_15 : decode cL_between 15 = .ok (.astore 5, 2) := by decide +kernel
theorem dL_between_17 : decode cL_between 17 = .ok (.iconst 1, 1) := by decide +kernel
theorem dL_between_18 : decode cL_between 18 = .ok (.ireturn, 1) := by decide +kernel
theorem dL_between_19 : decode cL_between 19 = .ok (.iconst 0, 1) := by decide +kernel
theorem dL_between_20 : decode cL_between 20 = .ok (.ireturn, 1) := by decide +kernel
set_option maxRecDepth 20000 in
theorem ggL_must_X0_must : GoodIn wsL_must wsX0_must := goodIn_ca (goodIn_ca (goodIn_ca (goodIn_r _ [8, 9, 10, 11, 12, 13, 7, 14, 15, 16, 17, 18, 19, 20, 21, 22, 23, 24, 25, 26, 27, 28, 29, 30, 31, 32, 33, 34, 35, 36, 37, 38, 39, 40, 41, 42, 43, 44, 45, 46, 47, 48, 49] (by decide +kernel) (by decide +kernel)) (goodIn_sub (fun _ h => List.mem_cons_of_mem _ (List.mem_append_left _ (List.mem_append_left _ (List.mem_append_right _ h)))) (by decide +kernel))) (goodIn_sub (fun _ h => List.mem_cons_of_mem _ (List.mem_append_left _ (List.mem_append_right _ h))) (by decide +kernel))) (goodIn_sub (fun _ h => List.mem_cons_of_mem _ (List.mem_append_right _ h)) (by decide +kernel))
set_option maxRecDepth 20000 in
theorem gL_must_X0_must : GoodIn wsL_must (wsV RL 38 RX0 yX0_must wsX0_must) := goodIn_app (goodIn_of _ (by decide +kernel)) ggL_must_X0_must
theorem dL_must_0 : decode cL_must 0 = .ok (.aload 5, 2) := by decide +kernel
theorem dL_must_2 : decode cL_must 2 = .ok (.iconst 0, 1) := by decide +kernel
theorem dL_must_3 : decode cL_must 3 = .ok (.aload_n 0, 1) := by decide +kernel
theorem dL_must_4 : decode cL_must 4 = .ok (.iload_n 1, 1) := by decide +kernel
theorem dL_must_5 : decode cL_must 5 = .ok (.iload_n 2, 1) := by decide +kernel
theorem dL_must_6 : decode cL_must 6 = .ok (.iload_n 3, 1) := by decide +kernel
theorem dL_must_7 : decode cL_must 7 = .ok (.iload 4, 2) := by decide +kernel
theorem dL_must_9 : decode cL_must 9 = .ok (.invokevirtual 38, 3) := by decide +kernel
theorem dL_must_12 : decode cL_must 12 = .ok (.i2l, 1) := by decide +kernel
theorem dL_must_13 : decode cL_must 13 = .ok (.lastore, 1) := by decide +kernel
theorem dL_must_14 : decode cL_must 14 = .ok (.goto 15, 3) := by decide +kernel
theorem dL_must_17 : decode cL_must 17 = .ok (.astore 6, 2) := by decide +kernel
theorem dL_must_19 : decode cL_must 19 = .ok (.iconst 1, 1) := by decide +kernel
theorem dL_must_20 : decode cL_must 20 = .ok (.ireturn, 1) := by decide +kernel
theorem dL_must_21 : decode cL_must 21 = .ok (.astore 6, 2) := by decide +kernel
theorem dL_must_23 : decode cL_must 23 = .ok (.iconst 2, 1) := by decide +kernel
theorem dL_must_24 : decode cL_must 24 = .ok (.ireturn, 1) := by decide +kernel
theorem dL_must_25 : decode cL_must 25 = .ok (.astore 6, 2) := by decide +kernel
theorem dL_must_27 : decode cL_must 27 = .ok (.iconst 3, 1) := by decide +kernel
theorem dL_must_28 : decode cL_must 28 = .ok (.ireturn, 1) := by decide +kernel
theorem dL_must_29 : decode cL_must 29 = .ok (.iconst 0, 1) := by decide +kernel
theorem dL_must_30 : decode cL_must 30 = .ok (.ireturn, 1) := by decide +kernel
set_option maxRecDepth 20000 in
theorem ggL_watch_X0_watch : GoodIn wsL_watch wsX0_watch := goodIn_ca (goodIn_r _ [6, 7, 8, 9, 10, 5, 11, 12, 13, 14, 15, 16, 17, 18, 19, 20, 21, 22, 23, 24, 25, 26, 27, 28, 29, 30, 31, 32, 33, 34, 35, 36, 37, 38, 39, 40, 41] (by decide +kernel) (by decide +kernel)) (goodIn_sub (fun _ h => List.mem_cons_of_mem _ (List.mem_append_right _ h)) (by decide +kernel))
set_option maxRecDepth 20000 in
theorem gL_watch_X0_watch : GoodIn wsL_watch (wsV RL 44 RX0 yX0_watch wsX0_watch) := goodIn_app (goodIn_of _ (by decide +kernel)) ggL_watch_X0_watch
theorem dL_watch_0 : decode cL_watch 0 = .ok (.aload 4, 2) := by decide +kernel
theorem dL_watch_2 : decode cL_watch 2 = .ok (.iconst 0, 1) := by decide +kernel
theorem dL_watch_3 : decode cL_watch 3 = .ok (.aload_n 0, 1) := by decide +kernel
theorem dL_watch_4 : decode cL_watch 4 = .ok (.iload_n 1, 1) := by decide +kernel
theorem dL_watch_5 : decode cL_watch 5 = .ok (.iload_n 2, 1) := by decide +kernel
theorem dL_watch_6 : decode cL_watch 6 = .ok (.iload_n 3, 1) := by decide +kernel
theorem dL_watch_7 : decode cL_watch 7 = .ok (.invokevirtual 44, 3) := by decide +kernel
theorem dL_watch_10 : decode cL_watch 10 = .ok (.i2l, 1) := by decide +kernel
theorem dL_watch_11 : decode cL_watch 11 = .ok (.lastore, 1) := by decide +kernel
theorem dL_watch_12 : decode cL_watch 12 = .ok (.goto 7, 3) := by decide +kernel
theorem dL_watch_15 : decode cL_watch 15 = .ok (.astore 5, 2) := by decide +kernel
theorem dL_watch_17 : decode cL_watch 17 = .ok (.iconst 1, 1) := by decide +kernel
theorem dL_watch_18 : decode cL_watch 18 = .ok (.ireturn, 1) := by decide +kernel
theorem dL_watch_19 : decode cL_watch 19 = .ok (.iconst 0, 1) := by decide +kernel
theorem dL_watch_20 : decode cL_watch 20 = .ok (.ireturn, 1) := by decide +kernel
set_option maxRecDepth 20000 in
theorem ggL_isOpen_X0_isOpen : GoodIn wsL_isOpen wsX0_isOpen := goodIn_ca (goodIn_r _ [6, 7, 8, 9, 5, 10, 11, 12, 13, 14, 15, 16] (by decide +kernel) (by decide +kernel)) (goodIn_sub (fun _ h => List.mem_cons_of_mem _ (List.mem_append_right _ h)) (by decide +kernel))
set_option maxRecDepth 20000 in
theorem gL_isOpen_X0_isOpen : GoodIn wsL_isOpen (wsV RL 48 RX0 yX0_isOpen wsX0_isOpen) := goodIn_app (goodIn_of _ (by decide +kernel)) ggL_isOpen_X0_isOpen
theorem dL_isOpen_0 : decode cL_isOpen 0 = .ok (.aload_n 2, 1) := by decide +kernel
theorem dL_isOpen_1 : decode cL_isOpen 1 = .ok (.iconst 0, 1) := by decide +kernel
theorem dL_isOpen_2 : decode cL_isOpen 2 = .ok (.aload_n 0, 1) := by decide +kernel
theorem dL_isOpen_3 : decode cL_isOpen 3 = .ok (.iload_n 1, 1) := by decide +kernel
theorem dL_isOpen_4 : decode cL_isOpen 4 = .ok (.invokevirtual 48, 3) := by decide +kernel
theorem dL_isOpen_7 : decode cL_isOpen 7 = .ok (.ifCond .eq 7, 3) := by decide +kernel
theorem dL_isOpen_10 : decode cL_isOpen 10 = .ok (.lconst 1, 1) := by decide +kernel
theorem dL_isOpen_11 : decode cL_isOpen 11 = .ok (.goto 4, 3) := by decide +kernel
theorem dL_isOpen_14 : decode cL_isOpen 14 = .ok (.lconst 0, 1) := by decide +kernel
theorem dL_isOpen_15 : decode cL_isOpen 15 = .ok (.lastore, 1) := by decide +kernel
theorem dL_isOpen_16 : decode cL_isOpen 16 = .ok (.goto 6, 3) := by decide +kernel
theorem dL_isOpen_19 : decode cL_isOpen 19 = .ok (.astore_n 3, 1) := by decide +kernel
theorem dL_isOpen_20 : decode cL_isOpen 20 = .ok (.iconst 1, 1) := by decide +kernel
theorem dL_isOpen_21 : decode cL_isOpen 21 = .ok (.ireturn, 1) := by decide +kernel
theorem dL_isOpen_22 : decode cL_isOpen 22 = .ok (.iconst 0, 1) := by decide +kernel
theorem dL_isOpen_23 : decode cL_isOpen 23 = .ok (.ireturn, 1) := by decide +kernel
set_option maxRecDepth 20000 in
theorem ggL_climb_X0_climb : GoodIn wsL_climb wsX0_climb := goodIn_ca (goodIn_ca (goodIn_r _ [7, 8, 9, 6, 10, 11, 12, 13, 14, 15, 16, 17, 18, 19, 20, 21, 22, 23, 24, 25, 26, 27, 28, 29, 30, 31, 32, 33, 34, 35, 36, 37, 38, 39, 40] (by decide +kernel) (by decide +kernel)) (goodIn_sub (fun _ h => List.mem_cons_of_mem _ (List.mem_append_left _ (List.mem_append_right _ h))) (by decide +kernel))) (goodIn_sub (fun _ h => List.mem_cons_of_mem _ (List.mem_append_right _ h)) (by decide +kernel))
set_option maxRecDepth 20000 in
theorem gL_climb_X0_climb : GoodIn wsL_climb (wsV RL 52 RX0 yX0_climb wsX0_climb) := goodIn_app (goodIn_of _ (by decide +kernel)) ggL_climb_X0_climb
theorem dL_climb_0 : decode cL_climb 0 = .ok (.aload 4, 2) := by decide +kernel
theorem dL_climb_2 : decode cL_climb 2 = .ok (.iconst 0, 1) := by decide +kernel
theorem dL_climb_3 : decode cL_climb 3 = .ok (.aload_n 0, 1) := by decide +kernel
theorem dL_climb_4 : decode cL_climb 4 = .ok (.iload_n 1, 1) := by decide +kernel
theorem dL_climb_5 : decode cL_climb 5 = .ok (.iload_n 2, 1) := by decide +kernel
theorem dL_climb_6 : decode cL_climb 6 = .ok (.iload_n 3, 1) := by decide +kernel
theorem dL_climb_7 : decode cL_climb 7 = .ok (.invokevirtual 52, 3) := by decide +kernel
theorem dL_climb_10 : decode cL_climb 10 = .ok (.i2l, 1) := by decide +kernel
theorem dL_climb_11 : decode cL_climb 11 = .ok (.lastore, 1) := by decide +kernel
theorem dL_climb_12 : decode cL_climb 12 = .ok (.goto 11, 3) := by decide +kernel
theorem dL_climb_15 : decode cL_climb 15 = .ok (.astore 5, 2) := by decide +kernel
theorem dL_climb_17 : decode cL_climb 17 = .ok (.iconst 1, 1) := by decide +kernel
theorem dL_climb_18 : decode cL_climb 18 = .ok (.ireturn, 1) := by decide +kernel
theorem dL_climb_19 : decode cL_climb 19 = .ok (.astore 5, 2) := by decide +kernel
theorem dL_climb_21 : decode cL_climb 21 = .ok (.iconst 2, 1) := by decide +kernel
theorem dL_climb_22 : decode cL_climb 22 = .ok (.ireturn, 1) := by decide +kernel
theorem dL_climb_23 : decode cL_climb 23 = .ok (.iconst 0, 1) := by decide +kernel
theorem dL_climb_24 : decode cL_climb 24 = .ok (.ireturn, 1) := by decide +kernel
set_option maxRecDepth 20000 in
theorem ggL_drift_X0_drift : GoodIn wsL_drift wsX0_drift := goodIn_ca (goodIn_ca (goodIn_r _ [7, 8, 9, 6, 10, 11, 12, 13, 14, 15, 16, 17, 18, 19, 20, 21, 22, 23, 24, 25, 26, 27, 28, 29, 30, 31, 32, 33, 34, 35, 36, 37, 38, 39, 40] (by decide +kernel) (by decide +kernel)) (goodIn_sub (fun _ h => List.mem_cons_of_mem _ (List.mem_append_left _ (List.mem_append_right _ h))) (by decide +kernel))) (goodIn_sub (fun _ h => List.mem_cons_of_mem _ (List.mem_append_right _ h)) (by decide +kernel))
set_option maxRecDepth 20000 in
theorem gL_drift_X0_drift : GoodIn wsL_drift (wsV RL 55 RX0 yX0_drift wsX0_drift) := goodIn_app (goodIn_of _ (by decide +kernel)) ggL_drift_X0_drift
theorem dL_drift_0 : decode cL_drift 0 = .ok (.aload 4, 2) := by decide +kernel
theorem dL_drift_2 : decode cL_drift 2 = .ok (.iconst 0, 1) := by decide +kernel
theorem dL_drift_3 : decode cL_drift 3 = .ok (.aload_n 0, 1) := by decide +kernel
theorem dL_drift_4 : decode cL_drift 4 = .ok (.iload_n 1, 1) := by decide +kernel
theorem dL_drift_5 : decode cL_drift 5 = .ok (.iload_n 2, 1) := by decide +kernel
theorem dL_drift_6 : decode cL_drift 6 = .ok (.iload_n 3, 1) := by decide +kernel
theorem dL_drift_7 : decode cL_drift 7 = .ok (.invokevirtual 55, 3) := by decide +kernel
theorem dL_drift_10 : decode cL_drift 10 = .ok (.i2l, 1) := by decide +kernel
theorem dL_drift_11 : decode cL_drift 11 = .ok (.lastore, 1) := by decide +kernel
theorem dL_drift_12 : decode cL_drift 12 = .ok (.goto 11, 3) := by decide +kernel
theorem dL_drift_15 : decode cL_drift 15 = .ok (.astore 5, 2) := by decide +kernel
theorem dL_drift_17 : decode cL_drift 17 = .ok (.iconst 1, 1) := by decide +kernel
theorem dL_drift_18 : decode cL_drift 18 = .ok (.ireturn, 1) := by decide +kernel
theorem dL_drift_19 : decode cL_drift 19 = .ok (.astore 5, 2) := by decide +kernel
theorem dL_drift_21 : decode cL_drift 21 = .ok (.iconst 2, 1) := by decide +kernel
theorem dL_drift_22 : decode cL_drift 22 = .ok (.ireturn, 1) := by decide +kernel
theorem dL_drift_23 : decode cL_drift 23 = .ok (.iconst 0, 1) := by decide +kernel
theorem dL_drift_24 : decode cL_drift 24 = .ok (.ireturn, 1) := by decide +kernel
set_option maxRecDepth 20000 in
theorem ggL_pick_X0_pick : GoodIn wsL_pick wsX0_pick := goodIn_ca (goodIn_ca (goodIn_r _ [7, 8, 9, 10, 6, 11, 12, 13, 14, 15, 16, 17, 18, 19, 20, 21, 22, 23, 24, 25, 26, 27, 28, 29] (by decide +kernel) (by decide +kernel)) (goodIn_sub (fun _ h => List.mem_cons_of_mem _ (List.mem_append_left _ (List.mem_append_right _ h))) (by decide +kernel))) (goodIn_sub (fun _ h => List.mem_cons_of_mem _ (List.mem_append_right _ h)) (by decide +kernel))
set_option maxRecDepth 20000 in
theorem gL_pick_X0_pick : GoodIn wsL_pick (wsV RL 58 RX0 yX0_pick wsX0_pick) := goodIn_app (goodIn_of _ (by decide +kernel)) ggL_pick_X0_pick
theorem dL_pick_0 : decode cL_pick 0 = .ok (.aload_n 3, 1) := by decide +kernel
theorem dL_pick_1 : decode cL_pick 1 = .ok (.iconst 0, 1) := by decide +kernel
theorem dL_pick_2 : decode cL_pick 2 = .ok (.aload_n 0, 1) := by decide +kernel
theorem dL_pick_3 : decode cL_pick 3 = .ok (.iload_n 1, 1) := by decide +kernel
theorem dL_pick_4 : decode cL_pick 4 = .ok (.iload_n 2, 1) := by decide +kernel
theorem dL_pick_5 : decode cL_pick 5 = .ok (.invokevirtual 58, 3) := by decide +kernel
theorem dL_pick_8 : decode cL_pick 8 = .ok (.i2l, 1) := by decide +kernel
theorem dL_pick_9 : decode cL_pick 9 = .ok (.lastore, 1) := by decide +kernel
theorem dL_pick_10 : decode cL_pick 10 = .ok (.goto 11, 3) := by decide +kernel
theorem dL_pick_13 : decode cL_pick 13 = .ok (.astore 4, 2) := by decide +kernel
theorem dL_pick_15 : decode cL_pick 15 = .ok (.iconst 1, 1) := by decide +kernel
theorem dL_pick_16 : decode cL_pick 16 = .ok (.ireturn, 1) := by decide +kernel
theorem dL_pick_17 : decode cL_pick 17 = .ok (.astore 4, 2) := by decide +kernel
theorem dL_pick_19 : decode cL_pick 19 = .ok (.iconst 2, 1) := by decide +kernel
theorem dL_pick_20 : decode cL_pick 20 = .ok (.ireturn, 1) := by decide +kernel
theorem dL_pick_21 : decode cL_pick 21 = .ok (.iconst 0, 1) := by decide +kernel
theorem dL_pick_22 : decode cL_pick 22 = .ok (.ireturn, 1) := by decide +kernel
set_option maxRecDepth 20000 in
theorem ggL_keep_X0_keep : GoodIn wsL_keep wsX0_keep := goodIn_ca (goodIn_ca (goodIn_r _ [7, 8, 9, 10, 6, 11, 12, 13, 14, 15, 16, 17, 18, 19, 20, 21, 22, 23, 24, 25, 26, 27, 28, 29, 30, 31, 32, 33, 34, 35, 36, 37, 38, 39, 40, 41] (by decide +kernel) (by decide +kernel)) (goodIn_sub (fun _ h => List.mem_cons_of_mem _ (List.mem_append_left _ (List.mem_append_right _ h))) (by decide +kernel))) (goodIn_sub (fun _ h => List.mem_cons_of_mem _ (List.mem_append_right _ h)) (by decide +kernel))
set_option maxRecDepth 20000 in
theorem gL_keep_X0_keep : GoodIn wsL_keep (wsV RL 61 RX0 yX0_keep wsX0_keep) := goodIn_app (goodIn_of _ (by decide +kernel)) ggL_keep_X0_keep
theorem dL_keep_0 : decode cL_keep 0 = .ok (.aload_n 3, 1) := by decide +kernel
theorem dL_keep_1 : decode cL_keep 1 = .ok (.iconst 0, 1) := by decide +kernel
theorem dL_keep_2 : decode cL_keep 2 = .ok (.aload_n 0, 1) := by decide +kernel
theorem dL_keep_3 : decode cL_keep 3 = .ok (.iload_n 1, 1) := by decide +kernel
theorem dL_keep_4 : decode cL_keep 4 = .ok (.iload_n 2, 1) := by decide +kernel
theorem dL_keep_5 : decode cL_keep 5 = .ok (.invokevirtual 61, 3) := by decide +kernel
theorem dL_keep_8 : decode cL_keep 8 = .ok (.i2l, 1) := by decide +kernel
theorem dL_keep_9 : decode cL_keep 9 = .ok (.lastore, 1) := by decide +kernel
theorem dL_keep_10 : decode cL_keep 10 = .ok (.goto 11, 3) := by decide +kernel
theorem dL_keep_13 : decode cL_keep 13 = .ok (.astore 4, 2) := by decide +kernel
theorem dL_keep_15 : decode cL_keep 15 = .ok (.iconst 1, 1) := by decide +kernel
theorem dL_keep_16 : decode cL_keep 16 = .ok (.ireturn, 1) := by decide +kernel
theorem dL_keep_17 : decode cL_keep 17 = .ok (.astore 4, 2) := by decide +kernel
theorem dL_keep_19 : decode cL_keep 19 = .ok (.iconst 2, 1) := by decide +kernel
theorem dL_keep_20 : decode cL_keep 20 = .ok (.ireturn, 1) := by decide +kernel
theorem dL_keep_21 : decode cL_keep 21 = .ok (.iconst 0, 1) := by decide +kernel
theorem dL_keep_22 : decode cL_keep 22 = .ok (.ireturn, 1) := by decide +kernel
set_option maxRecDepth 20000 in
theorem ggL_notes_X0_notes : GoodIn wsL_notes wsX0_notes := goodIn_ca (goodIn_r _ [6, 7, 8, 9, 5, 10, 11, 12, 13, 14, 15, 16] (by decide +kernel) (by decide +kernel)) (goodIn_sub (fun _ h => List.mem_cons_of_mem _ (List.mem_append_right _ h)) (by decide +kernel))
set_option maxRecDepth 20000 in
theorem gL_notes_X0_notes : GoodIn wsL_notes (wsV RL 64 RX0 yX0_notes wsX0_notes) := goodIn_app (goodIn_of _ (by decide +kernel)) ggL_notes_X0_notes
theorem dL_notes_0 : decode cL_notes 0 = .ok (.aload_n 2, 1) := by decide +kernel
theorem dL_notes_1 : decode cL_notes 1 = .ok (.iconst 0, 1) := by decide +kernel
theorem dL_notes_2 : decode cL_notes 2 = .ok (.aload_n 0, 1) := by decide +kernel
theorem dL_notes_3 : decode cL_notes 3 = .ok (.iload_n 1, 1) := by decide +kernel
theorem dL_notes_4 : decode cL_notes 4 = .ok (.invokevirtual 64, 3) := by decide +kernel
theorem dL_notes_7 : decode cL_notes 7 = .ok (.i2l, 1) := by decide +kernel
theorem dL_notes_8 : decode cL_notes 8 = .ok (.lastore, 1) := by decide +kernel
theorem dL_notes_9 : decode cL_notes 9 = .ok (.goto 6, 3) := by decide +kernel
theorem dL_notes_12 : decode cL_notes 12 = .ok (.astore_n 3, 1) := by decide +kernel
theorem dL_notes_13 : decode cL_notes 13 = .ok (.iconst 1, 1) := by decide +kernel
theorem dL_notes_14 : decode cL_notes 14 = .ok (.ireturn, 1) := by decide +kernel
theorem dL_notes_15 : decode cL_notes 15 = .ok (.iconst 0, 1) := by decide +kernel
theorem dL_notes_16 : decode cL_notes 16 = .ok (.ireturn, 1) := by decide +kernel
set_option maxRecDepth 20000 in
theorem ggL_gaps_X0_gaps : GoodIn wsL_gaps wsX0_gaps := goodIn_ca (goodIn_r _ [6, 7, 8, 5, 9, 10, 11, 12, 13, 14, 15, 16, 17, 18, 19, 20, 21, 22, 23, 24, 25, 26, 27] (by decide +kernel) (by decide +kernel)) (goodIn_sub (fun _ h => List.mem_cons_of_mem _ (List.mem_append_right _ h)) (by decide +kernel))
set_option maxRecDepth 20000 in
theorem gL_gaps_X0_gaps : GoodIn wsL_gaps (wsV RL 68 RX0 yX0_gaps wsX0_gaps) := goodIn_app (goodIn_of _ (by decide +kernel)) ggL_gaps_X0_gaps
theorem dL_gaps_0 : decode cL_gaps 0 = .ok (.aload_n 2, 1) := by decide +kernel
theorem dL_gaps_1 : decode cL_gaps 1 = .ok (.iconst 0, 1) := by decide +kernel
theorem dL_gaps_2 : decode cL_gaps 2 = .ok (.aload_n 0, 1) := by decide +kernel
theorem dL_gaps_3 : decode cL_gaps 3 = .ok (.iload_n 1, 1) := by decide +kernel
theorem dL_gaps_4 : decode cL_gaps 4 = .ok (.invokevirtual 68, 3) := by decide +kernel
theorem dL_gaps_7 : decode cL_gaps 7 = .ok (.i2l, 1) := by decide +kernel
theorem dL_gaps_8 : decode cL_gaps 8 = .ok (.lastore, 1) := by decide +kernel
theorem dL_gaps_9 : decode cL_gaps 9 = .ok (.goto 6, 3) := by decide +kernel
theorem dL_gaps_12 : decode cL_gaps 12 = .ok (.astore_n 3, 1) := by decide +kernel
theorem dL_gaps_13 : decode cL_gaps 13 = .ok (.iconst 1, 1) := by decide +kernel
theorem dL_gaps_14 : decode cL_gaps 14 = .ok (.ireturn, 1) := by decide +kernel
theorem dL_gaps_15 : decode cL_gaps 15 = .ok (.iconst 0, 1) := by decide +kernel
theorem dL_gaps_16 : decode cL_gaps 16 = .ok (.ireturn, 1) := by decide +kernel
set_option maxRecDepth 20000 in
theorem ggL_settle_X0_settle : GoodIn wsL_settle wsX0_settle := goodIn_ca (goodIn_ca (goodIn_r _ [7, 8, 9, 6, 10, 11, 12, 13, 14, 15, 16, 17, 18, 19, 20, 21, 22, 23, 24, 25, 26, 27, 28, 29, 30, 31, 32, 33] (by decide +kernel) (by decide +kernel)) (goodIn_sub (fun _ h => List.mem_cons_of_mem _ (List.mem_append_left _ (List.mem_append_right _ h))) (by decide +kernel))) (goodIn_sub (fun _ h => List.mem_cons_of_mem _ (List.mem_append_right _ h)) (by decide +kernel))
set_option maxRecDepth 20000 in
theorem gL_settle_X0_settle : GoodIn wsL_settle (wsV RL 71 RX0 yX0_settle wsX0_settle) := goodIn_app (goodIn_of _ (by decide +kernel)) ggL_settle_X0_settle
theorem dL_settle_0 : decode cL_settle 0 = .ok (.aload_n 3, 1) := by decide +kernel
theorem dL_settle_1 : decode cL_settle 1 = .ok (.iconst 0, 1) := by decide +kernel
theorem dL_settle_2 : decode cL_settle 2 = .ok (.aload_n 0, 1) := by decide +kernel
theorem dL_settle_3 : decode cL_settle 3 = .ok (.iload_n 1, 1) := by decide +kernel
theorem dL_settle_4 : decode cL_settle 4 = .ok (.iload_n 2, 1) := by decide +kernel
theorem dL_settle_5 : decode cL_settle 5 = .ok (.invokevirtual 71, 3) := by decide +kernel
theorem dL_settle_8 : decode cL_settle 8 = .ok (.i2l, 1) := by decide +kernel
theorem dL_settle_9 : decode cL_settle 9 = .ok (.lastore, 1) := by decide +kernel
theorem dL_settle_10 : decode cL_settle 10 = .ok (.goto 11, 3) := by decide +kernel
theorem dL_settle_13 : decode cL_settle 13 = .ok (.astore 4, 2) := by decide +kernel
theorem dL_settle_15 : decode cL_settle 15 = .ok (.iconst 1, 1) := by decide +kernel
theorem dL_settle_16 : decode cL_settle 16 = .ok (.ireturn, 1) := by decide +kernel
theorem dL_settle_17 : decode cL_settle 17 = .ok (.astore 4, 2) := by decide +kernel
theorem dL_settle_19 : decode cL_settle 19 = .ok (.iconst 2, 1) := by decide +kernel
theorem dL_settle_20 : decode cL_settle 20 = .ok (.ireturn, 1) := by decide +kernel
theorem dL_settle_21 : decode cL_settle 21 = .ok (.iconst 0, 1) := by decide +kernel
theorem dL_settle_22 : decode cL_settle 22 = .ok (.ireturn, 1) := by decide +kernel
set_option maxRecDepth 20000 in
theorem ggL_meet_X0_meet : GoodIn wsL_meet wsX0_meet := goodIn_ca (goodIn_ca (goodIn_r _ [7, 8, 9, 10, 6, 11, 12, 13, 14, 15, 16, 17, 18, 19, 20, 21, 22, 23, 24, 25, 26, 27, 28, 29, 30, 31, 32, 33, 34, 35] (by decide +kernel) (by decide +kernel)) (goodIn_sub (fun _ h => List.mem_cons_of_mem _ (List.mem_append_left _ (List.mem_append_right _ h))) (by decide +kernel))) (goodIn_sub (fun _ h => List.mem_cons_of_mem _ (List.mem_append_right _ h)) (by decide +kernel))
set_option maxRecDepth 20000 in
theorem gL_meet_X0_meet : GoodIn wsL_meet (wsV RL 74 RX0 yX0_meet wsX0_meet) := goodIn_app (goodIn_of _ (by decide +kernel)) ggL_meet_X0_meet
theorem dL_meet_0 : decode cL_meet 0 = .ok (.aload 4, 2) := by decide +kernel
theorem dL_meet_2 : decode cL_meet 2 = .ok (.iconst 0, 1) := by decide +kernel
theorem dL_meet_3 : decode cL_meet 3 = .ok (.aload_n 0, 1) := by decide +kernel
theorem dL_meet_4 : decode cL_meet 4 = .ok (.iload_n 1, 1) := by decide +kernel
theorem dL_meet_5 : decode cL_meet 5 = .ok (.iload_n 2, 1) := by decide +kernel
theorem dL_meet_6 : decode cL_meet 6 = .ok (.iload_n 3, 1) := by decide +kernel
theorem dL_meet_7 : decode cL_meet 7 = .ok (.invokevirtual 74, 3) := by decide +kernel
theorem dL_meet_10 : decode cL_meet 10 = .ok (.i2l, 1) := by decide +kernel
theorem dL_meet_11 : decode cL_meet 11 = .ok (.lastore, 1) := by decide +kernel
theorem dL_meet_12 : decode cL_meet 12 = .ok (.goto 11, 3) := by decide +kernel
theorem dL_meet_15 : decode cL_meet 15 = .ok (.astore 5, 2) := by decide +kernel
theorem dL_meet_17 : decode cL_meet 17 = .ok (.iconst 1, 1) := by decide +kernel
theorem dL_meet_18 : decode cL_meet 18 = .ok (.ireturn, 1) := by decide +kernel
theorem dL_meet_19 : decode cL_meet 19 = .ok (.astore 5, 2) := by decide +kernel
theorem dL_meet_21 : decode cL_meet 21 = .ok (.iconst 2, 1) := by decide +kernel
theorem dL_meet_22 : decode cL_meet 22 = .ok (.ireturn, 1) := by decide +kernel
theorem dL_meet_23 : decode cL_meet 23 = .ok (.iconst 0, 1) := by decide +kernel
theorem dL_meet_24 : decode cL_meet 24 = .ok (.ireturn, 1) := by decide +kernel
set_option maxRecDepth 20000 in
theorem ggL_alike_X0_alike : GoodIn wsL_alike wsX0_alike := goodIn_ca (goodIn_ca (goodIn_r _ [7, 8, 9, 10, 6, 11, 12, 13, 14, 15, 16, 17, 18, 19, 20, 21, 22, 23, 24, 25, 26, 27, 28] (by decide +kernel) (by decide +kernel)) (goodIn_sub (fun _ h => List.mem_cons_of_mem _ (List.mem_append_left _ (List.mem_append_right _ h))) (by decide +kernel))) (goodIn_sub (fun _ h => List.mem_cons_of_mem _ (List.mem_append_right _ h)) (by decide +kernel))
set_option maxRecDepth 20000 in
theorem gL_alike_X0_alike : GoodIn wsL_alike (wsV RL 77 RX0 yX0_alike wsX0_alike) := goodIn_app (goodIn_of _ (by decide +kernel)) ggL_alike_X0_alike
theorem dL_alike_0 : decode cL_alike 0 = .ok (.aload_n 3, 1) := by decide +kernel
theorem dL_alike_1 : decode cL_alike 1 = .ok (.iconst 0, 1) := by decide +kernel
theorem dL_alike_2 : decode cL_alike 2 = .ok (.aload_n 0, 1) := by decide +kernel
theorem dL_alike_3 : decode cL_alike 3 = .ok (.iload_n 1, 1) := by decide +kernel
theorem dL_alike_4 : decode cL_alike 4 = .ok (.iload_n 2, 1) := by decide +kernel
theorem dL_alike_5 : decode cL_alike 5 = .ok (.invokevirtual 77, 3) := by decide +kernel
theorem dL_alike_8 : decode cL_alike 8 = .ok (.ifCond .eq 7, 3) := by decide +kernel
theorem dL_alike_11 : decode cL_alike 11 = .ok (.lconst 1, 1) := by decide +kernel
theorem dL_alike_12 : decode cL_alike 12 = .ok (.goto 4, 3) := by decide +kernel
theorem dL_alike_15 : decode cL_alike 15 = .ok (.lconst 0, 1) := by decide +kernel
theorem dL_alike_16 : decode cL_alike 16 = .ok (.lastore, 1) := by decide +kernel
theorem dL_alike_17 : decode cL_alike 17 = .ok (.goto 11, 3) := by decide +kernel
theorem dL_alike_20 : decode cL_alike 20 = .ok (.astore 4, 2) := by decide +kernel
theorem dL_alike_22 : decode cL_alike 22 = .ok (.iconst 1, 1) := by decide +kernel
theorem dL_alike_23 : decode cL_alike 23 = .ok (.ireturn, 1) := by decide +kernel
theorem dL_alike_24 : decode cL_alike 24 = .ok (.astore 4, 2) := by decide +kernel
theorem dL_alike_26 : decode cL_alike 26 = .ok (.iconst 2, 1) := by decide +kernel
theorem dL_alike_27 : decode cL_alike 27 = .ok (.ireturn, 1) := by decide +kernel
theorem dL_alike_28 : decode cL_alike 28 = .ok (.iconst 0, 1) := by decide +kernel
theorem dL_alike_29 : decode cL_alike 29 = .ok (.ireturn, 1) := by decide +kernel
set_option maxRecDepth 20000 in
theorem ggL_merge_X0_merge : GoodIn wsL_merge wsX0_merge := goodIn_ca (goodIn_ca (goodIn_r _ [7, 8, 9, 10, 6, 11, 12, 13, 14, 15, 16, 17, 18, 19, 20, 21, 22, 23, 24, 25, 26, 27, 28, 29, 30, 31, 32, 33, 34, 35, 36, 37, 38] (by decide +kernel) (by decide +kernel)) (goodIn_sub (fun _ h => List.mem_cons_of_mem _ (List.mem_append_left _ (List.mem_append_right _ h))) (by decide +kernel))) (goodIn_sub (fun _ h => List.mem_cons_of_mem _ (List.mem_append_right _ h)) (by decide +kernel))
set_option maxRecDepth 20000 in
theorem gL_merge_X0_merge : GoodIn wsL_merge (wsV RL 81 RX0 yX0_merge wsX0_merge) := goodIn_app (goodIn_of _ (by decide +kernel)) ggL_merge_X0_merge
theorem dL_merge_0 : decode cL_merge 0 = .ok (.aload 5, 2) := by decide +kernel
theorem dL_merge_2 : decode cL_merge 2 = .ok (.iconst 0, 1) := by decide +kernel
theorem dL_merge_3 : decode cL_merge 3 = .ok (.aload_n 0, 1) := by decide +kernel
theorem dL_merge_4 : decode cL_merge 4 = .ok (.iload_n 1, 1) := by decide +kernel
theorem dL_merge_5 : decode cL_merge 5 = .ok (.iload_n 2, 1) := by decide +kernel
theorem dL_merge_6 : decode cL_merge 6 = .ok (.iload_n 3, 1) := by decide +kernel
theorem dL_merge_7 : decode cL_merge 7 = .ok (.iload 4, 2) := by decide +kernel
theorem dL_merge_9 : decode cL_merge 9 = .ok (.invokevirtual 81, 3) := by decide +kernel
theorem dL_merge_12 : decode cL_merge 12 = .ok (.i2l, 1) := by decide +kernel
theorem dL_merge_13 : decode cL_merge 13 = .ok (.lastore, 1) := by decide +kernel
theorem dL_merge_14 : decode cL_merge 14 = .ok (.goto 11, 3) := by decide +kernel
theorem dL_merge_17 : decode cL_merge 17 = .ok (.astore 6, 2) := by decide +kernel
theorem dL_merge_19 : decode cL_merge 19 = .ok (.iconst 1, 1) := by decide +kernel
theorem dL_merge_20 : decode cL_merge 20 = .ok (.ireturn, 1) := by decide +kernel
theorem dL_merge_21 : decode cL_merge 21 = .ok (.astore 6, 2) := by decide +kernel
theorem dL_merge_23 : decode cL_merge 23 = .ok (.iconst 2, 1) := by decide +kernel
theorem dL_merge_24 : decode cL_merge 24 = .ok (.ireturn, 1) := by decide +kernel
theorem dL_merge_25 : decode cL_merge 25 = .ok (.iconst 0, 1) := by decide +kernel
theorem dL_merge_26 : decode cL_merge 26 = .ok (.ireturn, 1) := by decide +kernel
