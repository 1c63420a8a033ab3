theorem dL_board_0 : decode cL_board 0 = .ok (.aload_n 2, 1) := by decide +kernel
theorem dL_board_1 : decode cL_board 1 = .ok (.iconst 0, 1) := by decide +kernel
theorem dL_board_2 : decode cL_board 2 = .ok (.aload_n 0, 1) := by decide +kernel
theorem dL_board_3 : decode cL_board 3 = .ok (.iload_n 1, 1) := by decide +kernel
theorem dL_board_4 : decode cL_board 4 = .ok (.invokevirtual 72, 3) := by decide +kernel
theorem dL_board_12 : decode cL_board 12 = .ok (.astore_n 3, 1) := by decide +kernel
theorem dL_board_13 : decode cL_board 13 = .ok (.iconst 1, 1) := by decide +kernel
theorem dL_board_14 : decode cL_board 14 = .ok (.ireturn, 1) := by decide +kernel
theorem dL_boom_0 : decode cL_boom 0 = .ok (.aload 4, 2) := by decide +kernel
theorem dL_boom_2 : decode cL_boom 2 = .ok (.iconst 0, 1) := by decide +kernel
theorem dL_boom_3 : decode cL_boom 3 = .ok (.aload_n 0, 1) := by decide +kernel
theorem dL_boom_4 : decode cL_boom 4 = .ok (.iload_n 1, 1) := by decide +kernel
theorem dL_boom_5 : decode cL_boom 5 = .ok (.iload_n 2, 1) := by decide +kernel
theorem dL_boom_6 : decode cL_boom 6 = .ok (.iload_n 3, 1) := by decide +kernel
theorem dL_boom_7 : decode cL_boom 7 = .ok (.invokevirtual 22, 3) := by decide +kernel
theorem dL_boom_22 : decode cL_boom 22 = .ok (.astore 5, 2) := by decide +kernel
theorem dL_boom_24 : decode cL_boom 24 = .ok (.iconst 1, 1) := by decide +kernel
theorem dL_boom_25 : decode cL_boom 25 = .ok (.ireturn, 1) := by decide +kernel
theorem dL_cell_0 : decode cL_cell 0 = .ok (.aload 4, 2) := by decide +kernel
theorem dL_cell_2 : decode cL_cell 2 = .ok (.iconst 0, 1) := by decide +kernel
theorem dL_cell_3 : decode cL_cell 3 = .ok (.aload_n 0, 1) := by decide +kernel
theorem dL_cell_4 : decode cL_cell 4 = .ok (.iload_n 1, 1) := by decide +kernel
theorem dL_cell_5 : decode cL_cell 5 = .ok (.iload_n 2, 1) := by decide +kernel
theorem dL_cell_6 : decode cL_cell 6 = .ok (.iload_n 3, 1) := by decide +kernel
theorem dL_cell_7 : decode cL_cell 7 = .ok (.invokevirtual 56, 3) := by decide +kernel
theorem dL_cell_15 : decode cL_cell 15 = .ok (.astore 5, 2) := by decide +kernel
theorem dL_cell_17 : decode cL_cell 17 = .ok (.iconst 1, 1) := by decide +kernel
theorem dL_cell_18 : decode cL_cell 18 = .ok (.ireturn, 1) := by decide +kernel
theorem dL_count_0 : decode cL_count 0 = .ok (.aload_n 2, 1) := by decide +kernel
theorem dL_count_1 : decode cL_count 1 = .ok (.iconst 0, 1) := by decide +kernel
theorem dL_count_2 : decode cL_count 2 = .ok (.aload_n 0, 1) := by decide +kernel
theorem dL_count_3 : decode cL_count 3 = .ok (.iload_n 1, 1) := by decide +kernel
theorem dL_count_4 : decode cL_count 4 = .ok (.invokevirtual 78, 3) := by decide +kernel
theorem dL_count_7 : decode cL_count 7 = .ok (.i2l, 1) := by decide +kernel
theorem dL_count_8 : decode cL_count 8 = .ok (.lastore, 1) := by decide +kernel
theorem dL_count_9 : decode cL_count 9 = .ok (.goto 6, 3) := by decide +kernel
theorem dL_count_12 : decode cL_count 12 = .ok (.astore_n 3, 1) := by decide +kernel
theorem dL_count_13 : decode cL_count 13 = .ok (.iconst 1, 1) := by decide +kernel
theorem dL_count_14 : decode cL_count 14 = .ok (.ireturn, 1) := by decide +kernel
theorem dL_count_15 : decode cL_count 15 = .ok (.iconst 0, 1) := by decide +kernel
theorem dL_count_16 : decode cL_count 16 = .ok (.ireturn, 1) := by decide +kernel
theorem dL_crew_0 : decode cL_crew 0 = .ok (.aload_n 3, 1) := by decide +kernel
theorem dL_crew_1 : decode cL_crew 1 = .ok (.iconst 0, 1) := by decide +kernel
theorem dL_crew_2 : decode cL_crew 2 = .ok (.aload_n 0, 1) := by decide +kernel
theorem dL_crew_3 : decode cL_crew 3 = .ok (.iload_n 1, 1) := by decide +kernel
theorem dL_crew_4 : decode cL_crew 4 = .ok (.iload_n 2, 1) := by decide +kernel
theorem dL_crew_5 : decode cL_crew 5 = .ok (.invokevirtual 30, 3) := by decide +kernel
theorem dL_crew_13 : decode cL_crew 13 = .ok (.astore 4, 2) := by decide +kernel
theorem dL_crew_15 : decode cL_crew 15 = .ok (.iconst 1, 1) := by decide +kernel
theorem dL_crew_16 : decode cL_crew 16 = .ok (.ireturn, 1) := by decide +kernel
theorem dL_dam_0 : decode cL_dam 0 = .ok (.aload_n 3, 1) := by decide +kernel
theorem dL_dam_1 : decode cL_dam 1 = .ok (.iconst 0, 1) := by decide +kernel
theorem dL_dam_2 : decode cL_dam 2 = .ok (.aload_n 0, 1) := by decide +kernel
theorem dL_dam_3 : decode cL_dam 3 = .ok (.iload_n 1, 1) := by decide +kernel
theorem dL_dam_4 : decode cL_dam 4 = .ok (.iload_n 2, 1) := by decide +kernel
theorem dL_dam_5 : decode cL_dam 5 = .ok (.invokevirtual 7, 3) := by decide +kernel
theorem dL_dam_20 : decode cL_dam 20 = .ok (.astore 4, 2) := by decide +kernel
theorem dL_dam_22 : decode cL_dam 22 = .ok (.iconst 1, 1) := by decide +kernel
theorem dL_dam_23 : decode cL_dam 23 = .ok (.ireturn, 1) := by decide +kernel
theorem dL_gate_0 : decode cL_gate 0 = .ok (.aload_n 3, 1) := by decide +kernel
theorem dL_gate_1 : decode cL_gate 1 = .ok (.iconst 0, 1) := by decide +kernel
theorem dL_gate_2 : decode cL_gate 2 = .ok (.aload_n 0, 1) := by decide +kernel
theorem dL_gate_3 : decode cL_gate 3 = .ok (.iload_n 1, 1) := by decide +kernel
theorem dL_gate_4 : decode cL_gate 4 = .ok (.iload_n 2, 1) := by decide +kernel
theorem dL_gate_5 : decode cL_gate 5 = .ok (.invokevirtual 15, 3) := by decide +kernel
theorem dL_gate_13 : decode cL_gate 13 = .ok (.astore 4, 2) := by decide +kernel
theorem dL_gate_15 : decode cL_gate 15 = .ok (.iconst 1, 1) := by decide +kernel
theorem dL_gate_16 : decode cL_gate 16 = .ok (.ireturn, 1) := by decide +kernel
theorem dL_heap_0 : decode cL_heap 0 = .ok (.aload_n 3, 1) := by decide +kernel
theorem dL_heap_1 : decode cL_heap 1 = .ok (.iconst 0, 1) := by decide +kernel
theorem dL_heap_2 : decode cL_heap 2 = .ok (.aload_n 0, 1) := by decide +kernel
theorem dL_heap_3 : decode cL_heap 3 = .ok (.iload_n 1, 1) := by decide +kernel
theorem dL_heap_4 : decode cL_heap 4 = .ok (.iload_n 2, 1) := by decide +kernel
theorem dL_heap_5 : decode cL_heap 5 = .ok (.invokevirtual 62, 3) := by decide +kernel
theorem dL_heap_13 : decode cL_heap 13 = .ok (.astore 4, 2) := by decide +kernel
theorem dL_heap_15 : decode cL_heap 15 = .ok (.iconst 1, 1) := by decide +kernel
theorem dL_heap_16 : decode cL_heap 16 = .ok (.ireturn, 1) := by decide +kernel
theorem dL_hours_0 : decode cL_hours 0 = .ok (.aload_n 2, 1) := by decide +kernel
theorem dL_hours_1 : decode cL_hours 1 = .ok (.iconst 0, 1) := by decide +kernel
theorem dL_hours_2 : decode cL_hours 2 = .ok (.aload_n 0, 1) := by decide +kernel
theorem dL_hours_3 : decode cL_hours 3 = .ok (.iload_n 1, 1) := by decide +kernel
theorem dL_hours_4 : decode cL_hours 4 = .ok (.invokevirtual 42, 3) := by decide +kernel
theorem dL_hours_7 : decode cL_hours 7 = .ok (.i2l, 1) := by decide +kernel
theorem dL_hours_8 : decode cL_hours 8 = .ok (.lastore, 1) := by decide +kernel
theorem dL_hours_9 : decode cL_hours 9 = .ok (.goto 6, 3) := by decide +kernel
theorem dL_hours_12 : decode cL_hours 12 = .ok (.astore_n 3, 1) := by decide +kernel
theorem dL_hours_13 : decode cL_hours 13 = .ok (.iconst 1, 1) := by decide +kernel
theorem dL_hours_14 : decode cL_hours 14 = .ok (.ireturn, 1) := by decide +kernel
theorem dL_hours_15 : decode cL_hours 15 = .ok (.iconst 0, 1) := by decide +kernel
theorem dL_hours_16 : decode cL_hours 16 = .ok (.ireturn, 1) := by decide +kernel
theorem dL_inCell_0 : decode cL_inCell 0 = .ok (.aload 4, 2) := by decide +kernel
theorem dL_inCell_2 : decode cL_inCell 2 = .ok (.iconst 0, 1) := by decide +kernel
theorem dL_inCell_3 : decode cL_inCell 3 = .ok (.aload_n 0, 1) := by decide +kernel
theorem dL_inCell_4 : decode cL_inCell 4 = .ok (.iload_n 1, 1) := by decide +kernel
theorem dL_inCell_5 : decode cL_inCell 5 = .ok (.iload_n 2, 1) := by decide +kernel
theorem dL_inCell_6 : decode cL_inCell 6 = .ok (.iload_n 3, 1) := by decide +kernel
theorem dL_inCell_7 : decode cL_inCell 7 = .ok (.invokevirtual 59, 3) := by decide +kernel
theorem dL_inCell_15 : decode cL_inCell 15 = .ok (.astore 5, 2) := by decide +kernel
theorem dL_inCell_17 : decode cL_inCell 17 = .ok (.iconst 1, 1) := by decide +kernel
theorem dL_inCell_18 : decode cL_inCell 18 = .ok (.ireturn, 1) := by decide +kernel
theorem dL_let_0 : decode cL_let 0 = .ok (.aload 4, 2) := by decide +kernel
theorem dL_let_2 : decode cL_let 2 = .ok (.iconst 0, 1) := by decide +kernel
theorem dL_let_3 : decode cL_let 3 = .ok (.aload_n 0, 1) := by decide +kernel
theorem dL_let_4 : decode cL_let 4 = .ok (.iload_n 1, 1) := by decide +kernel
theorem dL_let_5 : decode cL_let 5 = .ok (.iload_n 2, 1) := by decide +kernel
theorem dL_let_6 : decode cL_let 6 = .ok (.iload_n 3, 1) := by decide +kernel
theorem dL_let_7 : decode cL_let 7 = .ok (.invokevirtual 38, 3) := by decide +kernel
theorem dL_let_15 : decode cL_let 15 = .ok (.astore 5, 2) := by decide +kernel
theorem dL_let_17 : decode cL_let 17 = .ok (.iconst 1, 1) := by decide +kernel
theorem dL_let_18 : decode cL_let 18 = .ok (.ireturn, 1) := by decide +kernel
theorem dL_log_0 : decode cL_log 0 = .ok (.aload_n 3, 1) := by decide +kernel
theorem dL_log_1 : decode cL_log 1 = .ok (.iconst 0, 1) := by decide +kernel
theorem dL_log_2 : decode cL_log 2 = .ok (.aload_n 0, 1) := by decide +kernel
theorem dL_log_3 : decode cL_log 3 = .ok (.iload_n 1, 1) := by decide +kernel
theorem dL_log_4 : decode cL_log 4 = .ok (.iload_n 2, 1) := by decide +kernel
theorem dL_log_5 : decode cL_log 5 = .ok (.invokevirtual 53, 3) := by decide +kernel
theorem dL_log_13 : decode cL_log 13 = .ok (.astore 4, 2) := by decide +kernel
theorem dL_log_15 : decode cL_log 15 = .ok (.iconst 1, 1) := by decide +kernel
theorem dL_log_16 : decode cL_log 16 = .ok (.ireturn, 1) := by decide +kernel
theorem dL_melt_0 : decode cL_melt 0 = .ok (.aload_n 3, 1) := by decide +kernel
theorem dL_melt_1 : decode cL_melt 1 = .ok (.iconst 0, 1) := by decide +kernel
theorem dL_melt_2 : decode cL_melt 2 = .ok (.aload_n 0, 1) := by decide +kernel
theorem dL_melt_3 : decode cL_melt 3 = .ok (.iload_n 1, 1) := by decide +kernel
theorem dL_melt_4 : decode cL_melt 4 = .ok (.iload_n 2, 1) := by decide +kernel
theorem dL_melt_5 : decode cL_melt 5 = .ok (.invokevirtual 19, 3) := by decide +kernel
theorem dL_melt_13 : decode cL_melt 13 = .ok (.astore 4, 2) := by decide +kernel
theorem dL_melt_15 : decode cL_melt 15 = .ok (.iconst 1, 1) := by decide +kernel
theorem dL_melt_16 : decode cL_melt 16 = .ok (.ireturn, 1) := by decide +kernel
theorem dL_order_0 : decode cL_order 0 = .ok (.aload 5, 2) := by decide +kernel
theorem dL_order_2 : decode cL_order 2 = .ok (.iconst 0, 1) := by decide +kernel
theorem dL_order_3 : decode cL_order 3 = .ok (.aload_n 0, 1) := by decide +kernel
theorem dL_order_4 : decode cL_order 4 = .ok (.iload_n 1, 1) := by decide +kernel
theorem dL_order_5 : decode cL_order 5 = .ok (.iload_n 2, 1) := by decide +kernel
theorem dL_order_6 : decode cL_order 6 = .ok (.iload_n 3, 1) := by decide +kernel
theorem dL_order_7 : decode cL_order 7 = .ok (.iload 4, 2) := by decide +kernel
theorem dL_order_9 : decode cL_order 9 = .ok (.invokevirtual 46, 3) := by decide +kernel
theorem dL_order_17 : decode cL_order 17 = .ok (.astore 6, 2) := by decide +kernel
theorem dL_order_19 : decode cL_order 19 = .ok (.iconst 1, 1) := by decide +kernel
theorem dL_order_20 : decode cL_order 20 = .ok (.ireturn, 1) := by decide +kernel
theorem dL_paid_0 : decode cL_paid 0 = .ok (.aload_n 2, 1) := by decide +kernel
theorem dL_paid_1 : decode cL_paid 1 = .ok (.iconst 0, 1) := by decide +kernel
theorem dL_paid_2 : decode cL_paid 2 = .ok (.aload_n 0, 1) := by decide +kernel
theorem dL_paid_3 : decode cL_paid 3 = .ok (.iload_n 1, 1) := by decide +kernel
theorem dL_paid_4 : decode cL_paid 4 = .ok (.invokevirtual 75, 3) := by decide +kernel
theorem dL_paid_7 : decode cL_paid 7 = .ok (.lastore, 1) := by decide +kernel
theorem dL_paid_8 : decode cL_paid 8 = .ok (.goto 6, 3) := by decide +kernel
theorem dL_paid_11 : decode cL_paid 11 = .ok (.astore_n 3, 1) := by decide +kernel
theorem dL_paid_12 : decode cL_paid 12 = .ok (.iconst 1, 1) := by decide +kernel
theorem dL_paid_13 : decode cL_paid 13 = .ok (.ireturn, 1) := by decide +kernel
theorem dL_paid_14 : decode cL_paid 14 = .ok (.iconst 0, 1) := by decide +kernel
theorem dL_paid_15 : decode cL_paid 15 = .ok (.ireturn, 1) := by decide +kernel
theorem dL_wants_0 : decode cL_wants 0 = .ok (.aload_n 2, 1) := by decide +kernel
theorem dL_wants_1 : decode cL_wants 1 = .ok (.iconst 0, 1) := by decide +kernel
theorem dL_wants_2 : decode cL_wants 2 = .ok (.aload_n 0, 1) := by decide +kernel
theorem dL_wants_3 : decode cL_wants 3 = .ok (.iload_n 1, 1) := by decide +kernel
theorem dL_wants_4 : decode cL_wants 4 = .ok (.invokevirtual 50, 3) := by decide +kernel
theorem dL_wants_12 : decode cL_wants 12 = .ok (.astore_n 3, 1) := by decide +kernel
theorem dL_wants_13 : decode cL_wants 13 = .ok (.iconst 1, 1) := by decide +kernel
theorem dL_wants_14 : decode cL_wants 14 = .ok (.ireturn, 1) := by decide +kernel
theorem dL_watch_0 : decode cL_watch 0 = .ok (.aload_n 3, 1) := by decide +kernel
theorem dL_watch_1 : decode cL_watch 1 = .ok (.iconst 0, 1) := by decide +kernel
theorem dL_watch_2 : decode cL_watch 2 = .ok (.aload_n 0, 1) := by decide +kernel
theorem dL_watch_3 : decode cL_watch 3 = .ok (.iload_n 1, 1) := by decide +kernel
theorem dL_watch_4 : decode cL_watch 4 = .ok (.iload_n 2, 1) := by decide +kernel
theorem dL_watch_5 : decode cL_watch 5 = .ok (.invokevirtual 26, 3) := by decide +kernel
theorem dL_watch_20 : decode cL_watch 20 = .ok (.astore 4, 2) := by decide +kernel
theorem dL_watch_22 : decode cL_watch 22 = .ok (.iconst 1, 1) := by decide +kernel
theorem dL_watch_23 : decode cL_watch 23 = .ok (.ireturn, 1) := by decide +kernel
theorem dL_water_0 : decode cL_water 0 = .ok (.aload_n 3, 1) := by decide +kernel
theorem dL_water_1 : decode cL_water 1 = .ok (.iconst 0, 1) := by decide +kernel
theorem dL_water_2 : decode cL_water 2 = .ok (.aload_n 0, 1) := by decide +kernel
theorem dL_water_3 : decode cL_water 3 = .ok (.iload_n 1, 1) := by decide +kernel
theorem dL_water_4 : decode cL_water 4 = .ok (.iload_n 2, 1) := by decide +kernel
theorem dL_water_5 : decode cL_water 5 = .ok (.invokevirtual 65, 3) := by decide +kernel
theorem dL_water_13 : decode cL_water 13 = .ok (.astore 4, 2) := by decide +kernel
theorem dL_water_15 : decode cL_water 15 = .ok (.iconst 1, 1) := by decide +kernel
theorem dL_water_16 : decode cL_water 16 = .ok (.ireturn, 1) := by decide +kernel
theorem dL_waters_0 : decode cL_waters 0 = .ok (.aload_n 2, 1) := by decide +kernel
theorem dL_waters_1 : decode cL_waters 1 = .ok (.iconst 0, 1) := by decide +kernel
theorem dL_waters_2 : decode cL_waters 2 = .ok (.aload_n 0, 1) := by decide +kernel
theorem dL_waters_3 : decode cL_waters 3 = .ok (.iload_n 1, 1) := by decide +kernel
theorem dL_waters_4 : decode cL_waters 4 = .ok (.invokevirtual 68, 3) := by decide +kernel
theorem dL_waters_7 : decode cL_waters 7 = .ok (.lastore, 1) := by decide +kernel
theorem dL_waters_8 : decode cL_waters 8 = .ok (.goto 6, 3) := by decide +kernel
theorem dL_waters_11 : decode cL_waters 11 = .ok (.astore_n 3, 1) := by decide +kernel
theorem dL_waters_12 : decode cL_waters 12 = .ok (.iconst 1, 1) := by decide +kernel
theorem dL_waters_13 : decode cL_waters 13 = .ok (.ireturn, 1) := by decide +kernel
theorem dL_waters_14 : decode cL_waters 14 = .ok (.iconst 0, 1) := by decide +kernel
theorem dL_waters_15 : decode cL_waters 15 = .ok (.ireturn, 1) := by decide +kernel
set_option maxRecDepth 20000 in
theorem ggL_board_X11_board : GoodIn wsL_board wsX11_board := goodIn_ca (goodIn_r _ [6, 7, 8, 9, 10, 11, 12, 13, 14, 15, 16, 17, 18, 19, 20, 21, 22, 23, 24, 25, 26, 27, 28, 29, 30, 31, 32, 33, 34, 35, 36, 37, 5, 38, 39, 40, 41, 42, 43, 44, 45, 46, 47, 48, 49, 50, 51, 52, 53, 54, 55, 56, 57, 58, 59, 60, 61, 62, 63, 64] (by decide +kernel) (by decide +kernel)) (goodIn_sub (fun _ h => List.mem_cons_of_mem _ (List.mem_append_right _ h)) (by decide +kernel))
set_option maxRecDepth 20000 in
theorem gL_board_X11_board : GoodIn wsL_board (wsV RL 72 RX11 yX11_board wsX11_board) := goodIn_app (goodIn_of _ (by decide +kernel)) ggL_board_X11_board
set_option maxRecDepth 20000 in
theorem ggL_boom_X11_boom : GoodIn wsL_boom wsX11_boom := goodIn_ca (goodIn_r _ [6, 7, 8, 9, 10, 11, 12, 13, 14, 15, 16, 5, 17, 18, 19, 20, 21, 22, 23, 24, 25, 26, 27, 28, 29, 30, 31, 32, 33, 34, 35, 36, 37, 38, 39, 40, 41, 42, 43, 44, 45, 46, 47, 48, 49, 50, 51, 52, 53, 54, 55, 56, 57, 58, 59, 60, 61, 62, 63, 64, 65, 66, 67, 68, 69, 70, 71, 72, 73, 74, 75, 76, 77, 78, 79, 80, 81, 82, 83, 84, 85, 86, 87, 88, 89, 90, 91, 92, 93, 94, 95, 96, 97, 98, 99, 100, 101, 102, 103, 104, 105] (by decide +kernel) (by decide +kernel)) (goodIn_sub (fun _ h => List.mem_cons_of_mem _ (List.mem_append_right _ h)) (by decide +kernel))
set_option maxRecDepth 20000 in
theorem gL_boom_X11_boom : GoodIn wsL_boom (wsV RL 22 RX11 yX11_boom wsX11_boom) := goodIn_app (goodIn_of _ (by decide +kernel)) ggL_boom_X11_boom
set_option maxRecDepth 20000 in
theorem ggL_cell_X11_cell : GoodIn wsL_cell wsX11_cell := goodIn_ca (goodIn_r _ [6, 7, 8, 9, 10, 11, 12, 13, 14, 15, 16, 5, 17, 18, 19, 20, 21, 22, 23, 24, 25, 26, 27, 28, 29, 30, 31, 32, 33, 34, 35, 36, 37, 38, 39, 40, 41, 42, 43, 44, 45, 46, 47, 48, 49, 50, 51, 52, 53, 54, 55, 56, 57, 58, 59, 60, 61, 62, 63, 64, 65, 66, 67, 68, 69, 70, 71, 72, 73, 74, 75, 76, 77, 78, 79, 80, 81, 82] (by decide +kernel) (by decide +kernel)) (goodIn_sub (fun _ h => List.mem_cons_of_mem _ (List.mem_append_right _ h)) (by decide +kernel))
set_option maxRecDepth 20000 in
theorem gL_cell_X11_cell : GoodIn wsL_cell (wsV RL 56 RX11 yX11_cell wsX11_cell) := goodIn_app (goodIn_of _ (by decide +kernel)) ggL_cell_X11_cell
set_option maxRecDepth 20000 in
theorem ggL_count_X11_count : GoodIn wsL_count wsX11_count := goodIn_ca (goodIn_r _ [6, 7, 8, 9, 10, 11, 12, 13, 14, 15, 16, 17, 18, 19, 20, 21, 22, 23, 24, 25, 26, 5, 27, 28, 29, 30, 31, 32, 33, 34, 35, 36, 37, 38, 39, 40, 41, 42, 43, 44, 45, 46, 47, 48, 49, 50, 51, 52, 53, 54, 55, 56, 57, 58, 59, 60, 61, 62, 63, 64, 65, 66, 67, 68, 69, 70, 71, 72, 73, 74, 75, 76, 77, 78, 79, 80, 81, 82, 83, 84, 85] (by decide +kernel) (by decide +kernel)) (goodIn_sub (fun _ h => List.mem_cons_of_mem _ (List.mem_append_right _ h)) (by decide +kernel))
set_option maxRecDepth 20000 in
theorem gL_count_X11_count : GoodIn wsL_count (wsV RL 78 RX11 yX11_count wsX11_count) := goodIn_app (goodIn_of _ (by decide +kernel)) ggL_count_X11_count
set_option maxRecDepth 20000 in
theorem ggL_crew_X11_crew : GoodIn wsL_crew wsX11_crew := goodIn_ca (goodIn_r _ [6, 7, 8, 9, 10, 11, 12, 13, 14, 5, 15, 16, 17, 18, 19, 20, 21, 22, 23, 24, 25, 26, 27, 28, 29, 30, 31, 32, 33, 34, 35, 36, 37, 38, 39, 40, 41, 42, 43, 44, 45, 46, 47, 48, 49, 50, 51, 52, 53, 54, 55, 56, 57, 58, 59, 60, 61, 62, 63, 64, 65, 66, 67, 68, 69, 70, 71, 72, 73, 74, 75, 76, 77, 78, 79, 80, 81, 82, 83, 84, 85, 86, 87, 88, 89, 90, 91, 92, 93, 94, 95, 96, 97, 98, 99, 100, 101, 102, 103, 104, 105, 106, 107, 108, 109, 110, 111, 112, 113, 114, 115, 116, 117, 118, 119, 120, 121, 122, 123, 124, 125, 126, 127, 128, 129, 130, 131, 132, 133, 134, 135, 136, 137, 138, 139, 140, 141, 142, 143, 144, 145, 146, 147, 148, 149] (by decide +kernel) (by decide +kernel)) (goodIn_sub (fun _ h => List.mem_cons_of_mem _ (List.mem_append_right _ h)) (by decide +kernel))
set_option maxRecDepth 20000 in
theorem gL_crew_X11_crew : GoodIn wsL_crew (wsV RL 30 RX11 yX11_crew wsX11_crew) := goodIn_app (goodIn_of _ (by decide +kernel)) ggL_crew_X11_crew
set_option maxRecDepth 20000 in
theorem ggL_dam_X11_dam : GoodIn wsL_dam wsX11_dam := goodIn_ca (goodIn_r _ [6, 7, 8, 9, 10, 11, 12, 5, 13, 14, 15, 16, 17, 18, 19, 20, 21, 22, 23, 24, 25, 26, 27, 28, 29, 30, 31, 32, 33, 34, 35, 36, 37, 38, 39, 40, 41, 42, 43, 44, 45, 46, 47, 48, 49, 50, 51, 52, 53, 54, 55, 56, 57, 58, 59, 60, 61, 62, 63, 64, 65, 66, 67, 68, 69, 70, 71, 72, 73] (by decide +kernel) (by decide +kernel)) (goodIn_sub (fun _ h => List.mem_cons_of_mem _ (List.mem_append_right _ h)) (by decide +kernel))
set_option maxRecDepth 20000 in
theorem gL_dam_X11_dam : GoodIn wsL_dam (wsV RL 7 RX11 yX11_dam wsX11_dam) := goodIn_app (goodIn_of _ (by decide +kernel)) ggL_dam_X11_dam
set_option maxRecDepth 20000 in
theorem ggL_gate_X11_gate : GoodIn wsL_gate wsX11_gate := goodIn_ca (goodIn_r _ [6, 7, 8, 9, 10, 11, 5, 12, 13, 14, 15, 16, 17, 18, 19, 20, 21, 22, 23, 24, 25, 26, 27, 28, 29, 30, 31, 32, 33, 34, 35, 36, 37, 38, 39, 40, 41, 42, 43, 44, 45, 46, 47, 48, 49, 50, 51, 52, 53, 54, 55, 56, 57, 58, 59, 60, 61, 62, 63, 64, 65, 66, 67, 68, 69, 70, 71, 72] (by decide +kernel) (by decide +kernel)) (goodIn_sub (fun _ h => List.mem_cons_of_mem _ (List.mem_append_right _ h)) (by decide +kernel))
set_option maxRecDepth 20000 in
theorem gL_gate_X11_gate : GoodIn wsL_gate (wsV RL 15 RX11 yX11_gate wsX11_gate) := goodIn_app (goodIn_of _ (by decide +kernel)) ggL_gate_X11_gate
set_option maxRecDepth 20000 in
theorem ggL_heap_X11_heap : GoodIn wsL_heap wsX11_heap := goodIn_ca (goodIn_r _ [6, 7, 8, 9, 10, 11, 5, 12, 13, 14, 15, 16, 17, 18, 19, 20, 21, 22, 23, 24, 25, 26, 27, 28, 29, 30, 31, 32, 33, 34, 35, 36, 37, 38, 39, 40, 41, 42, 43, 44, 45, 46, 47, 48, 49, 50, 51, 52, 53, 54, 55, 56, 57, 58, 59, 60, 61, 62, 63, 64, 65, 66, 67, 68, 69, 70, 71, 72, 73, 74, 75, 76, 77, 78, 79, 80, 81, 82, 83, 84, 85, 86, 87, 88, 89, 90] (by decide +kernel) (by decide +kernel)) (goodIn_sub (fun _ h => List.mem_cons_of_mem _ (List.mem_append_right _ h)) (by decide +kernel))
set_option maxRecDepth 20000 in
theorem gL_heap_X11_heap : GoodIn wsL_heap (wsV RL 62 RX11 yX11_heap wsX11_heap) := goodIn_app (goodIn_of _ (by decide +kernel)) ggL_heap_X11_heap
set_option maxRecDepth 20000 in
theorem ggL_hours_X11_hours : GoodIn wsL_hours wsX11_hours := goodIn_ca (goodIn_r _ [6, 7, 8, 9, 10, 11, 5, 12, 13, 14, 15, 16, 17, 18, 19, 20, 21, 22, 23, 24, 25, 26, 27, 28, 29, 30, 31, 32, 33, 34, 35, 36, 37, 38, 39, 40, 41, 42, 43, 44, 45, 46, 47, 48, 49, 50, 51, 52, 53, 54, 55, 56, 57, 58, 59, 60, 61, 62, 63, 64, 65, 66, 67, 68, 69, 70, 71, 72, 73, 74, 75, 76, 77, 78, 79, 80, 81, 82, 83, 84, 85, 86, 87, 88, 89, 90, 91, 92, 93, 94, 95, 96, 97, 98, 99, 100, 101, 102, 103, 104, 105, 106, 107, 108, 109, 110, 111, 112, 113, 114, 115, 116, 117, 118, 119, 120, 121, 122, 123, 124, 125, 126, 127, 128, 129, 130, 131, 132, 133, 134, 135, 136, 137, 138, 139, 140, 141, 142, 143, 144, 145, 146, 147, 148, 149, 150, 151, 152, 153, 154, 155, 156, 157, 158, 159, 160, 161, 162, 163, 164, 165, 166, 167, 168, 169, 170, 171, 172, 173, 174, 175, 176, 177, 178, 179, 180, 181, 182, 183, 184, 185, 186, 187, 188, 189, 190, 191, 192, 193, 194, 195, 196, 197, 198, 199, 200, 201, 202, 203, 204, 205, 206, 207, 208, 209, 210, 211, 212, 213, 214, 215, 216, 217, 218, 219, 220, 221, 222, 223, 224, 225, 226, 227, 228, 229, 230, 231, 232, 233, 234, 235, 236, 237, 238, 239, 240, 241, 242, 243, 244, 245, 246, 247, 248, 249, 250, 251, 252, 253, 254, 255, 256, 257, 258, 259, 260, 261, 262, 263, 264, 265, 266, 267, 268, 269, 270, 271, 272, 273, 274, 275, 276, 277, 278, 279, 280, 281, 282, 283, 284, 285, 286, 287, 288, 289, 290, 291, 292, 293, 294, 295, 296, 297, 298, 299, 300, 301, 302, 303, 304, 305, 306, 307, 308, 309, 310, 311, 312, 313, 314, 315, 316, 317, 318, 319, 320, 321, 322, 323, 324, 325, 326, 327, 328, 329, 330, 331, 332, 333, 334, 335, 336, 337, 338, 339, 340, 341, 342, 343, 344, 345, 346, 347, 348, 349, 350, 351, 352, 353, 354, 355, 356, 357, 358, 359, 360, 361, 362, 363, 364, 365, 366, 367, 368, 369, 370, 371, 372, 373, 374, 375, 376, 377, 378] (by decide +kernel) (by decide +kernel)) (goodIn_sub (fun _ h => List.mem_cons_of_mem _ (List.mem_append_right _ h)) (by decide +kernel))
set_option maxRecDepth 20000 in
theorem gL_hours_X11_hours : GoodIn wsL_hours (wsV RL 42 RX11 yX11_hours wsX11_hours) := goodIn_app (goodIn_of _ (by decide +kernel)) ggL_hours_X11_hours
set_option maxRecDepth 20000 in
theorem ggL_inCell_X11_inCell : GoodIn wsL_inCell wsX11_inCell := goodIn_ca (goodIn_r _ [6, 7, 8, 9, 10, 11, 12, 5, 13, 14, 15, 16, 17, 18, 19, 20, 21, 22, 23, 24, 25, 26, 27, 28, 29, 30, 31, 32, 33, 34, 35, 36, 37, 38, 39, 40, 41, 42, 43, 44, 45, 46, 47, 48, 49, 50, 51, 52, 53, 54, 55, 56, 57, 58, 59, 60, 61, 62, 63, 64, 65, 66, 67, 68, 69, 70, 71, 72, 73, 74, 75, 76, 77, 78, 79, 80, 81, 82, 83, 84, 85, 86, 87, 88, 89, 90, 91, 92, 93, 94] (by decide +kernel) (by decide +kernel)) (goodIn_sub (fun _ h => List.mem_cons_of_mem _ (List.mem_append_right _ h)) (by decide +kernel))
set_option maxRecDepth 20000 in
theorem gL_inCell_X11_inCell : GoodIn wsL_inCell (wsV RL 59 RX11 yX11_inCell wsX11_inCell) := goodIn_app (goodIn_of _ (by decide +kernel)) ggL_inCell_X11_inCell
set_option maxRecDepth 20000 in
theorem ggL_let_X11_let : GoodIn wsL_let wsX11_let := goodIn_ca (goodIn_r _ [6, 7, 8, 9, 10, 11, 12, 13, 5, 14, 15, 16, 17, 18, 19, 20, 21, 22, 23, 24, 25, 26, 27, 28, 29, 30, 31, 32, 33, 34, 35, 36, 37, 38, 39, 40, 41, 42, 43, 44, 45, 46, 47, 48, 49, 50, 51, 52, 53, 54, 55, 56, 57, 58, 59, 60, 61, 62, 63, 64, 65, 66, 67, 68, 69, 70, 71, 72, 73, 74, 75, 76, 77, 78, 79, 80, 81, 82, 83, 84, 85, 86, 87, 88, 89, 90, 91, 92, 93, 94, 95, 96, 97, 98, 99, 100, 101, 102, 103, 104, 105, 106, 107, 108, 109, 110, 111, 112, 113, 114, 115, 116, 117, 118, 119, 120, 121, 122, 123, 124, 125, 126, 127, 128, 129, 130, 131, 132, 133, 134, 135, 136, 137, 138, 139, 140, 141, 142, 143, 144, 145, 146, 147, 148, 149, 150, 151, 152, 153, 154, 155, 156, 157, 158, 159, 160, 161, 162, 163, 164, 165, 166, 167, 168, 169, 170, 171, 172, 173, 174, 175, 176, 177, 178, 179, 180, 181, 182, 183, 184, 185, 186, 187, 188, 189, 190, 191, 192, 193, 194, 195, 196, 197, 198, 199, 200, 201, 202, 203, 204, 205, 206, 207, 208, 209, 210, 211, 212, 213, 214, 215, 216, 217, 218, 219, 220, 221, 222, 223] (by decide +kernel) (by decide +kernel)) (goodIn_sub (fun _ h => List.mem_cons_of_mem _ (List.mem_append_right _ h)) (by decide +kernel))
set_option maxRecDepth 20000 in
theorem gL_let_X11_let : GoodIn wsL_let (wsV RL 38 RX11 yX11_let wsX11_let) := goodIn_app (goodIn_of _ (by decide +kernel)) ggL_let_X11_let
set_option maxRecDepth 20000 in
theorem ggL_log_X11_log : GoodIn wsL_log wsX11_log := goodIn_ca (goodIn_r _ [6, 7, 8, 9, 10, 11, 12, 13, 14, 15, 16, 17, 18, 19, 5, 20, 21, 22, 23, 24, 25, 26, 27, 28, 29, 30, 31, 32, 33, 34, 35, 36, 37, 38, 39, 40, 41, 42, 43, 44, 45, 46, 47, 48, 49, 50, 51, 52, 53, 54, 55, 56, 57, 58, 59, 60, 61, 62, 63, 64, 65, 66, 67, 68, 69, 70, 71, 72, 73, 74] (by decide +kernel) (by decide +kernel)) (goodIn_sub (fun _ h => List.mem_cons_of_mem _ (List.mem_append_right _ h)) (by decide +kernel))
set_option maxRecDepth 20000 in
theorem gL_log_X11_log : GoodIn wsL_log (wsV RL 53 RX11 yX11_log wsX11_log) := goodIn_app (goodIn_of _ (by decide +kernel)) ggL_log_X11_log
set_option maxRecDepth 20000 in
theorem ggL_melt_X11_melt : GoodIn wsL_melt wsX11_melt := goodIn_ca (goodIn_r _ [6, 7, 8, 9, 10, 5, 11, 12, 13, 14, 15, 16, 17, 18, 19, 20, 21, 22, 23, 24, 25, 26, 27, 28, 29, 30, 31, 32, 33, 34, 35, 36, 37, 38, 39, 40, 41, 42, 43, 44, 45, 46, 47, 48, 49, 50, 51, 52, 53, 54, 55, 56, 57, 58, 59, 60, 61, 62, 63, 64, 65, 66, 67, 68, 69, 70, 71] (by decide +kernel) (by decide +kernel)) (goodIn_sub (fun _ h => List.mem_cons_of_mem _ (List.mem_append_right _ h)) (by decide +kernel))
set_option maxRecDepth 20000 in
theorem gL_melt_X11_melt : GoodIn wsL_melt (wsV RL 19 RX11 yX11_melt wsX11_melt) := goodIn_app (goodIn_of _ (by decide +kernel)) ggL_melt_X11_melt
set_option maxRecDepth 20000 in
theorem ggL_order_X11_order : GoodIn wsL_order wsX11_order := goodIn_ca (goodIn_r _ [6, 7, 8, 9, 10, 11, 12, 13, 14, 15, 5, 16, 17, 18, 19, 20, 21, 22, 23, 24, 25, 26, 27, 28, 29, 30, 31, 32, 33, 34, 35, 36, 37, 38, 39, 40, 41, 42, 43, 44, 45, 46, 47, 48, 49, 50, 51, 52, 53, 54, 55, 56, 57, 58, 59, 60, 61, 62, 63, 64, 65, 66, 67, 68, 69, 70, 71, 72, 73, 74, 75, 76, 77, 78, 79, 80, 81, 82, 83, 84, 85, 86, 87, 88, 89, 90, 91, 92, 93, 94, 95, 96, 97, 98, 99, 100, 101, 102, 103, 104, 105, 106, 107, 108, 109, 110, 111, 112, 113, 114, 115, 116, 117, 118, 119, 120, 121, 122, 123, 124, 125, 126, 127, 128, 129, 130, 131, 132, 133, 134, 135, 136, 137, 138, 139, 140, 141, 142, 143, 144, 145] (by decide +kernel) (by decide +kernel)) (goodIn_sub (fun _ h => List.mem_cons_of_mem _ (List.mem_append_right _ h)) (by decide +kernel))
set_option maxRecDepth 20000 in
theorem gL_order_X11_order : GoodIn wsL_order (wsV RL 46 RX11 yX11_order wsX11_order) := goodIn_app (goodIn_of _ (by decide +kernel)) ggL_order_X11_order
set_option maxRecDepth 20000 in
theorem ggL_paid_X11_paid : GoodIn wsL_paid wsX11_paid := goodIn_ca (goodIn_r _ [6, 7, 8, 9, 10, 11, 5, 12, 13, 14, 15, 16, 17, 18, 19, 20, 21, 22, 23, 24, 25, 26] (by decide +kernel) (by decide +kernel)) (goodIn_sub (fun _ h => List.mem_cons_of_mem _ (List.mem_append_right _ h)) (by decide +kernel))
set_option maxRecDepth 20000 in
theorem gL_paid_X11_paid : GoodIn wsL_paid (wsV RL 75 RX11 yX11_paid wsX11_paid) := goodIn_app (goodIn_of _ (by decide +kernel)) ggL_paid_X11_paid
set_option maxRecDepth 20000 in
theorem ggL_wants_X11_wants : GoodIn wsL_wants wsX11_wants := goodIn_ca (goodIn_r _ [6, 7, 8, 9, 10, 11, 12, 13, 14, 15, 16, 17, 18, 19, 5, 20, 21, 22, 23, 24, 25, 26, 27, 28, 29, 30, 31, 32, 33, 34, 35, 36, 37, 38, 39, 40, 41, 42, 43, 44, 45, 46, 47, 48, 49, 50, 51, 52, 53, 54, 55, 56, 57] (by decide +kernel) (by decide +kernel)) (goodIn_sub (fun _ h => List.mem_cons_of_mem _ (List.mem_append_right _ h)) (by decide +kernel))
set_option maxRecDepth 20000 in
theorem gL_wants_X11_wants : GoodIn wsL_wants (wsV RL 50 RX11 yX11_wants wsX11_wants) := goodIn_app (goodIn_of _ (by decide +kernel)) ggL_wants_X11_wants
set_option maxRecDepth 20000 in
theorem ggL_watch_X11_watch : GoodIn wsL_watch wsX11_watch := goodIn_ca (goodIn_r _ [6, 7, 8, 9, 10, 5, 11, 12, 13, 14, 15, 16, 17, 18, 19, 20, 21, 22, 23, 24, 25, 26, 27, 28, 29, 30, 31, 32, 33, 34, 35, 36, 37, 38, 39, 40, 41, 42, 43, 44, 45, 46, 47, 48, 49, 50, 51, 52, 53, 54, 55, 56, 57, 58, 59, 60, 61, 62, 63, 64, 65, 66, 67, 68, 69, 70, 71] (by decide +kernel) (by decide +kernel)) (goodIn_sub (fun _ h => List.mem_cons_of_mem _ (List.mem_append_right _ h)) (by decide +kernel))
set_option maxRecDepth 20000 in
theorem gL_watch_X11_watch : GoodIn wsL_watch (wsV RL 26 RX11 yX11_watch wsX11_watch) := goodIn_app (goodIn_of _ (by decide +kernel)) ggL_watch_X11_watch
set_option maxRecDepth 20000 in
theorem ggL_water_X11_water : GoodIn wsL_water wsX11_water := goodIn_ca (goodIn_r _ [6, 7, 8, 9, 10, 11, 12, 13, 14, 15, 16, 17, 18, 5, 19, 20, 21, 22, 23, 24, 25, 26, 27, 28, 29, 30, 31, 32, 33, 34, 35, 36, 37, 38, 39, 40, 41, 42, 43, 44, 45, 46, 47, 48, 49, 50, 51, 52, 53, 54, 55, 56, 57, 58, 59, 60, 61, 62, 63, 64, 65, 66, 67, 68, 69, 70, 71, 72, 73, 74, 75, 76, 77] (by decide +kernel) (by decide +kernel)) (goodIn_sub (fun _ h => List.mem_cons_of_mem _ (List.mem_append_right _ h)) (by decide +kernel))
set_option maxRecDepth 20000 in
theorem gL_water_X11_water : GoodIn wsL_water (wsV RL 65 RX11 yX11_water wsX11_water) := goodIn_app (goodIn_of _ (by decide +kernel)) ggL_water_X11_water
set_option maxRecDepth 20000 in
theorem ggL_waters_X11_waters : GoodIn wsL_waters wsX11_waters := goodIn_ca (goodIn_r _ [6, 7, 8, 9, 10, 11, 12, 13, 14, 15, 16, 17, 18, 19, 20, 21, 22, 23, 24] (by decide +kernel) (by decide +kernel)) (goodIn_sub (fun _ h => List.mem_cons_of_mem _ (List.mem_append_right _ h)) (by decide +kernel))
set_option maxRecDepth 20000 in
theorem gL_waters_X11_waters : GoodIn wsL_waters (wsV RL 68 RX11 yX11_waters wsX11_waters) := goodIn_app (goodIn_of _ (by decide +kernel)) ggL_waters_X11_waters
set_option maxHeartbeats 8000000 in
set_option maxRecDepth 100000 in
/-- the wrapper of dam -/
theorem c_L_dam (l : Launch) (hlt : l.stackTraces = false) (e0 : Nat) (dC : Nat → ClassId) (dI : Nat → Nat → Nat) (sz : Nat) (h : Nat → Nat) (qo : Nat) (cO : ClassId) (fo : Nat → Int64) (p0 p1 : Int32) : vx_Met l yL_dam wsL_dam ({ frames := 8, cells := 1, slots := 6, locals := 126 }) (va_Pc [.ref (h 0), .int p0, .int p1, .ref qo] (pz_P e0 (dC, dI) [(cO, .long)] [(h 0, .inr (12, [.ref (h 1), .ref (h 2), .ref (h 3), .ref (h 4), .ref (h 5), .ref (h 6), .ref (h 8), .ref (h 12), .ref (h 11), .int 0, .int 0, .int (-1), .long 0, .long 0])), (h 1, .inr (0, [.int 0, .ref e0, .int 0])), (qo, .inl (cO, 1, .inr (.inl fo)))] sz)) (va_Qi (S := Unit) (fun (r : Int32) (_ : Unit) => r = 1) (fun _ _ => True) (va_A [(h 0, .inr (12, [.ref (h 1), .ref (h 2), .ref (h 3), .ref (h 4), .ref (h 5), .ref (h 6), .ref (h 8), .ref (h 12), .ref (h 11), .int 0, .int 0, .int (-1), .long 0, .long 0])), (h 1, .inr (0, [.int 0, .ref e0, .int 0])), (qo, .inl (cO, 1, .inr (.inl fo)))] sz)) (pz_X pz_N False (va_A [(h 0, .inr (12, [.ref (h 1), .ref (h 2), .ref (h 3), .ref (h 4), .ref (h 5), .ref (h 6), .ref (h 8), .ref (h 12), .ref (h 11), .int 0, .int 0, .int (-1), .long 0, .long 0])), (h 1, .inr (0, [.int 0, .ref e0, .int 0])), (qo, .inl (cO, 1, .inr (.inl fo)))] sz)) 1 6 (va_A [(h 0, .inr (12, [.ref (h 1), .ref (h 2), .ref (h 3), .ref (h 4), .ref (h 5), .ref (h 6), .ref (h 8), .ref (h 12), .ref (h 11), .int 0, .int 0, .int (-1), .long 0, .long 0])), (h 1, .inr (0, [.int 0, .ref e0, .int 0])), (qo, .inl (cO, 1, .inr (.inl fo)))] sz) := by
  refine vx_ofWH (cc := cL_dam) (maxL := 5) (ret := (some .int)) (hh := [(0, 17, 20, 13)]) (by decide) rfl ?_
  intro p e s m args below meth c s₁ B hml hv
  obtain ⟨rfl, hsz, hP, hK, hD0, hZ, hV, hT⟩ := hv
  have hx := B.exec
  have hb := B.bytes
  have hr := B.returns
  have hts := atoms_spec (ws := wsL_dam) B.pre
  have hown : s.vm.findClass RL = some m.cls := findClass_of_methodNamed B.named
  have hlocks := B.notSynchronized
  have htab := vx_table (x := yL_dam) B (hts _ List.mem_cons_self)
  subst hsz
  have hD := hD0.self (sz := s.heap.size)
  generalize hAe : va_A [(h 0, .inr (12, [.ref (h 1), .ref (h 2), .ref (h 3), .ref (h 4), .ref (h 5), .ref (h 6), .ref (h 8), .ref (h 12), .ref (h 11), .int 0, .int 0, .int (-1), .long 0, .long 0])), (h 1, .inr (0, [.int 0, .ref e0, .int 0])), (qo, .inl (cO, 1, .inr (.inl fo)))] s.heap.size = A at hD hZ hT ⊢
  have hA : ∀ q : Nat, s.heap.size ≤ q → A q := fun q h => by rw [← hAe]; exact Or.inr h
  have hS : va_S A s.heap s.heap [] := va_S.rf
  have hP : va_P (dC, dI) vwCl [(h 0, .inr (12, [.ref (h 1), .ref (h 2), .ref (h 3), .ref (h 4), .ref (h 5), .ref (h 6), .ref (h 8), .ref (h 12), .ref (h 11), .int 0, .int 0, .int (-1), .long 0, .long 0])), (h 1, .inr (0, [.int 0, .ref e0, .int 0])), (qo, .inl (cO, 1, .inr (.inl fo)))] s.heap := hP
  have hl := lv_entry ([.ref (h 0), .int p0, .int p1, .ref qo]) (n := 5) (Nat.le_of_ble_eq_true rfl)
  rw [lg_entry_eq]
  generalize (lg_sl ([.ref (h 0), .int p0, .int p1, .ref qo]) ++ List.replicate (5 - (lg_sl ([.ref (h 0), .int p0, .int p1, .ref qo])).length) Slot.unset).toArray = ls at hl ⊢
  have hl : lv_has ls 5 [(0, .ref (h 0)), (1, .int p0), (2, .int p1), (3, .ref qo)] := hl
  refine lv_aload_n hx hb dL_dam_0 rfl (lv_at hl 3 rfl) ?_
  refine lv_iconst (v := 0) hx hb dL_dam_1 (by decide) ?_
  refine lv_aload_n hx hb dL_dam_2 rfl (lv_at hl 0 rfl) ?_
  refine lv_iload_n hx hb dL_dam_3 rfl (lv_at hl 1 rfl) ?_
  refine lv_iload_n hx hb dL_dam_4 rfl (lv_at hl 2 rfl) ?_
  have hPc := hP.sub (ws' := [(h 0, .inr (12, [.ref (h 1), .ref (h 2), .ref (h 3), .ref (h 4), .ref (h 5), .ref (h 6), .ref (h 8), .ref (h 12), .ref (h 11), .int 0, .int 0, .int (-1), .long 0, .long 0])), (h 1, .inr (0, [.int 0, .ref e0, .int 0]))]) [0, 1] rfl
  have hDc := hD.sub (ws' := [(h 0, .inr (12, [.ref (h 1), .ref (h 2), .ref (h 3), .ref (h 4), .ref (h 5), .ref (h 6), .ref (h 8), .ref (h 12), .ref (h 11), .int 0, .int 0, .int (-1), .long 0, .long 0])), (h 1, .inr (0, [.int 0, .ref e0, .int 0]))]) [0, 1] (by decide) rfl
  have hKc := hK.sub (tys' := []) [] rfl
  have hFc := va_free (wc := [(h 0, .inr (12, [.ref (h 1), .ref (h 2), .ref (h 3), .ref (h 4), .ref (h 5), .ref (h 6), .ref (h 8), .ref (h 12), .ref (h 11), .int 0, .int 0, .int (-1), .long 0, .long 0])), (h 1, .inr (0, [.int 0, .ref e0, .int 0]))]) hD hS hA [0, 1] rfl
  refine vx_callv (vx_runV (As := [.int p0, .int p1]) (rest := [.int 0, .ref qo]) ⟨hx, hb, hml, hown, hts⟩ (c_X11_dam l hlt e0 dC dI s.heap.size h p0 p1) (cwV 2 hts gL_dam_X11_dam rfl rfl rfl (by decide +kernel) ⟨Nat.le_of_ble_eq_true rfl, Nat.le_of_ble_eq_true rfl⟩) (pz_preV [.int p0, .int p1] hPc hDc hKc hZ hV hT hS hFc (va_recv hKc hPc (ci := 12) (q0 := 0) rfl rfl)) rfl rfl hl.1 rfl (lv_room (Nat.le_of_ble_eq_true rfl)) dL_dam_5 ⟨Nat.le_of_ble_eq_true rfl, Nat.le_of_ble_eq_true rfl⟩) hS (fun q _ h => hFc q h) hFc (fun q _ h => hFc q h) (fun E ce qx_5 u_2 t H locs ht hvm hpx hE hz1 hk1 hS hce hcv hcl => ?_) (fun u_2 t H locs ht hvm hw_3 hB_4 hz1 hk1 hS => ?_)
  ·
    obtain ⟨hP, hD⟩ := pz_rest (wr := [(qo, .inl (cO, 1, .inr (.inl fo)))]) hP hD [0, 1] [2] rfl rfl (by decide) (by decide) hk1 hFc
    subst hE
    refine pq_catch hown _ htab (by decide) (by decide) (hts (.classLink RL 13 pz_N) (by decide +kernel)) (va_any rfl hV.2.2.2.1.2.2.2.1) hce hcv hcl ?_
    refine W.eq (g2 := F0 m 20 ls [.ref qx_5]) rfl ?_
    refine lv_astore (lv' := [(4, .ref qx_5), (0, .ref (h 0)), (1, .int p0), (2, .int p1), (3, .ref qo)]) hx hb dL_dam_20 hl (by decide) rfl (fun ls hl => ?_)
    refine lv_iconst (v := 1) hx hb dL_dam_22 (by decide) ?_
    refine W.widen (k := 1) (n := 6) (Nat.le_of_ble_eq_true rfl) (Nat.le_of_ble_eq_true rfl) ?_
    refine vx_ret ?_
    exact W.iret (v := 1) hx hb hr (fun t ht hW => ⟨⟨1, (), rfl, rfl, trivial⟩, hS.F ht⟩) hS.2.2 dL_dam_23
  · exact hw_3.elim
set_option maxHeartbeats 8000000 in
set_option maxRecDepth 100000 in
/-- the wrapper of gate -/
theorem c_L_gate (l : Launch) (hlt : l.stackTraces = false) (e0 : Nat) (dC : Nat → ClassId) (dI : Nat → Nat → Nat) (sz : Nat) (h : Nat → Nat) (qo : Nat) (cO : ClassId) (fo : Nat → Int64) (p0 p1 : Int32) : vx_Met l yL_gate wsL_gate ({ frames := 8, cells := 1, slots := 6, locals := 127 }) (va_Pc [.ref (h 0), .int p0, .int p1, .ref qo] (pz_P e0 (dC, dI) [(cO, .long)] [(h 0, .inr (12, [.ref (h 1), .ref (h 2), .ref (h 3), .ref (h 4), .ref (h 5), .ref (h 6), .ref (h 8), .ref (h 12), .ref (h 11), .int 0, .int 0, .int (-1), .long 0, .long 0])), (h 1, .inr (0, [.int 0, .ref e0, .int 0])), (qo, .inl (cO, 1, .inr (.inl fo)))] sz)) (va_Qi (S := Unit) (fun (r : Int32) (_ : Unit) => r = 1) (fun _ _ => True) (va_A [(h 0, .inr (12, [.ref (h 1), .ref (h 2), .ref (h 3), .ref (h 4), .ref (h 5), .ref (h 6), .ref (h 8), .ref (h 12), .ref (h 11), .int 0, .int 0, .int (-1), .long 0, .long 0])), (h 1, .inr (0, [.int 0, .ref e0, .int 0])), (qo, .inl (cO, 1, .inr (.inl fo)))] sz)) (pz_X pz_N False (va_A [(h 0, .inr (12, [.ref (h 1), .ref (h 2), .ref (h 3), .ref (h 4), .ref (h 5), .ref (h 6), .ref (h 8), .ref (h 12), .ref (h 11), .int 0, .int 0, .int (-1), .long 0, .long 0])), (h 1, .inr (0, [.int 0, .ref e0, .int 0])), (qo, .inl (cO, 1, .inr (.inl fo)))] sz)) 1 6 (va_A [(h 0, .inr (12, [.ref (h 1), .ref (h 2), .ref (h 3), .ref (h 4), .ref (h 5), .ref (h 6), .ref (h 8), .ref (h 12), .ref (h 11), .int 0, .int 0, .int (-1), .long 0, .long 0])), (h 1, .inr (0, [.int 0, .ref e0, .int 0])), (qo, .inl (cO, 1, .inr (.inl fo)))] sz) := by
  refine vx_ofWH (cc := cL_gate) (maxL := 5) (ret := (some .int)) (hh := [(0, 10, 13, 13)]) (by decide) rfl ?_
  intro p e s m args below meth c s₁ B hml hv
  obtain ⟨rfl, hsz, hP, hK, hD0, hZ, hV, hT⟩ := hv
  have hx := B.exec
  have hb := B.bytes
  have hr := B.returns
  have hts := atoms_spec (ws := wsL_gate) B.pre
  have hown : s.vm.findClass RL = some m.cls := findClass_of_methodNamed B.named
  have hlocks := B.notSynchronized
  have htab := vx_table (x := yL_gate) B (hts _ List.mem_cons_self)
  subst hsz
  have hD := hD0.self (sz := s.heap.size)
  generalize hAe : va_A [(h 0, .inr (12, [.ref (h 1), .ref (h 2), .ref (h 3), .ref (h 4), .ref (h 5), .ref (h 6), .ref (h 8), .ref (h 12), .ref (h 11), .int 0, .int 0, .int (-1), .long 0, .long 0])), (h 1, .inr (0, [.int 0, .ref e0, .int 0])), (qo, .inl (cO, 1, .inr (.inl fo)))] s.heap.size = A at hD hZ hT ⊢
  have hA : ∀ q : Nat, s.heap.size ≤ q → A q := fun q h => by rw [← hAe]; exact Or.inr h
  have hS : va_S A s.heap s.heap [] := va_S.rf
  have hP : va_P (dC, dI) vwCl [(h 0, .inr (12, [.ref (h 1), .ref (h 2), .ref (h 3), .ref (h 4), .ref (h 5), .ref (h 6), .ref (h 8), .ref (h 12), .ref (h 11), .int 0, .int 0, .int (-1), .long 0, .long 0])), (h 1, .inr (0, [.int 0, .ref e0, .int 0])), (qo, .inl (cO, 1, .inr (.inl fo)))] s.heap := hP
  have hl := lv_entry ([.ref (h 0), .int p0, .int p1, .ref qo]) (n := 5) (Nat.le_of_ble_eq_true rfl)
  rw [lg_entry_eq]
  generalize (lg_sl ([.ref (h 0), .int p0, .int p1, .ref qo]) ++ List.replicate (5 - (lg_sl ([.ref (h 0), .int p0, .int p1, .ref qo])).length) Slot.unset).toArray = ls at hl ⊢
  have hl : lv_has ls 5 [(0, .ref (h 0)), (1, .int p0), (2, .int p1), (3, .ref qo)] := hl
  refine lv_aload_n hx hb dL_gate_0 rfl (lv_at hl 3 rfl) ?_
  refine lv_iconst (v := 0) hx hb dL_gate_1 (by decide) ?_
  refine lv_aload_n hx hb dL_gate_2 rfl (lv_at hl 0 rfl) ?_
  refine lv_iload_n hx hb dL_gate_3 rfl (lv_at hl 1 rfl) ?_
  refine lv_iload_n hx hb dL_gate_4 rfl (lv_at hl 2 rfl) ?_
  have hPc := hP.sub (ws' := [(h 0, .inr (12, [.ref (h 1), .ref (h 2), .ref (h 3), .ref (h 4), .ref (h 5), .ref (h 6), .ref (h 8), .ref (h 12), .ref (h 11), .int 0, .int 0, .int (-1), .long 0, .long 0])), (h 1, .inr (0, [.int 0, .ref e0, .int 0]))]) [0, 1] rfl
  have hDc := hD.sub (ws' := [(h 0, .inr (12, [.ref (h 1), .ref (h 2), .ref (h 3), .ref (h 4), .ref (h 5), .ref (h 6), .ref (h 8), .ref (h 12), .ref (h 11), .int 0, .int 0, .int (-1), .long 0, .long 0])), (h 1, .inr (0, [.int 0, .ref e0, .int 0]))]) [0, 1] (by decide) rfl
  have hKc := hK.sub (tys' := []) [] rfl
  have hFc := va_free (wc := [(h 0, .inr (12, [.ref (h 1), .ref (h 2), .ref (h 3), .ref (h 4), .ref (h 5), .ref (h 6), .ref (h 8), .ref (h 12), .ref (h 11), .int 0, .int 0, .int (-1), .long 0, .long 0])), (h 1, .inr (0, [.int 0, .ref e0, .int 0]))]) hD hS hA [0, 1] rfl
  refine vx_callv (vx_runV (As := [.int p0, .int p1]) (rest := [.int 0, .ref qo]) ⟨hx, hb, hml, hown, hts⟩ (c_X11_gate l hlt e0 dC dI s.heap.size h p0 p1) (cwV 2 hts gL_gate_X11_gate rfl rfl rfl (by decide +kernel) ⟨Nat.le_of_ble_eq_true rfl, Nat.le_of_ble_eq_true rfl⟩) (pz_preV [.int p0, .int p1] hPc hDc hKc hZ hV hT hS hFc (va_recv hKc hPc (ci := 12) (q0 := 0) rfl rfl)) rfl rfl hl.1 rfl (lv_room (Nat.le_of_ble_eq_true rfl)) dL_gate_5 ⟨Nat.le_of_ble_eq_true rfl, Nat.le_of_ble_eq_true rfl⟩) hS (fun q _ h => hFc q h) hFc (fun q _ h => hFc q h) (fun E ce qx_5 u_2 t H locs ht hvm hpx hE hz1 hk1 hS hce hcv hcl => ?_) (fun u_2 t H locs ht hvm hw_3 hB_4 hz1 hk1 hS => ?_)
  ·
    obtain ⟨hP, hD⟩ := pz_rest (wr := [(qo, .inl (cO, 1, .inr (.inl fo)))]) hP hD [0, 1] [2] rfl rfl (by decide) (by decide) hk1 hFc
    subst hE
    refine pq_catch hown _ htab (by decide) (by decide) (hts (.classLink RL 13 pz_N) (by decide +kernel)) (va_any rfl hV.2.2.2.1.2.2.2.1) hce hcv hcl ?_
    refine W.eq (g2 := F0 m 13 ls [.ref qx_5]) rfl ?_
    refine lv_astore (lv' := [(4, .ref qx_5), (0, .ref (h 0)), (1, .int p0), (2, .int p1), (3, .ref qo)]) hx hb dL_gate_13 hl (by decide) rfl (fun ls hl => ?_)
    refine lv_iconst (v := 1) hx hb dL_gate_15 (by decide) ?_
    refine W.widen (k := 1) (n := 6) (Nat.le_of_ble_eq_true rfl) (Nat.le_of_ble_eq_true rfl) ?_
    refine vx_ret ?_
    exact W.iret (v := 1) hx hb hr (fun t ht hW => ⟨⟨1, (), rfl, rfl, trivial⟩, hS.F ht⟩) hS.2.2 dL_gate_16
  · exact hw_3.elim
set_option maxHeartbeats 8000000 in
set_option maxRecDepth 100000 in
/-- the wrapper of melt -/
theorem c_L_melt (l : Launch) (hlt : l.stackTraces = false) (e0 : Nat) (dC : Nat → ClassId) (dI : Nat → Nat → Nat) (sz : Nat) (h : Nat → Nat) (qo : Nat) (cO : ClassId) (fo : Nat → Int64) (p0 p1 : Int32) : vx_Met l yL_melt wsL_melt ({ frames := 8, cells := 1, slots := 6, locals := 127 }) (va_Pc [.ref (h 0), .int p0, .int p1, .ref qo] (pz_P e0 (dC, dI) [(cO, .long)] [(h 0, .inr (12, [.ref (h 1), .ref (h 2), .ref (h 3), .ref (h 4), .ref (h 5), .ref (h 6), .ref (h 8), .ref (h 12), .ref (h 11), .int 0, .int 0, .int (-1), .long 0, .long 0])), (h 1, .inr (0, [.int 0, .ref e0, .int 0])), (qo, .inl (cO, 1, .inr (.inl fo)))] sz)) (va_Qi (S := Unit) (fun (r : Int32) (_ : Unit) => r = 1) (fun _ _ => True) (va_A [(h 0, .inr (12, [.ref (h 1), .ref (h 2), .ref (h 3), .ref (h 4), .ref (h 5), .ref (h 6), .ref (h 8), .ref (h 12), .ref (h 11), .int 0, .int 0, .int (-1), .long 0, .long 0])), (h 1, .inr (0, [.int 0, .ref e0, .int 0])), (qo, .inl (cO, 1, .inr (.inl fo)))] sz)) (pz_X pz_N False (va_A [(h 0, .inr (12, [.ref (h 1), .ref (h 2), .ref (h 3), .ref (h 4), .ref (h 5), .ref (h 6), .ref (h 8), .ref (h 12), .ref (h 11), .int 0, .int 0, .int (-1), .long 0, .long 0])), (h 1, .inr (0, [.int 0, .ref e0, .int 0])), (qo, .inl (cO, 1, .inr (.inl fo)))] sz)) 1 6 (va_A [(h 0, .inr (12, [.ref (h 1), .ref (h 2), .ref (h 3), .ref (h 4), .ref (h 5), .ref (h 6), .ref (h 8), .ref (h 12), .ref (h 11), .int 0, .int 0, .int (-1), .long 0, .long 0])), (h 1, .inr (0, [.int 0, .ref e0, .int 0])), (qo, .inl (cO, 1, .inr (.inl fo)))] sz) := by
  refine vx_ofWH (cc := cL_melt) (maxL := 5) (ret := (some .int)) (hh := [(0, 10, 13, 13)]) (by decide) rfl ?_
  intro p e s m args below meth c s₁ B hml hv
  obtain ⟨rfl, hsz, hP, hK, hD0, hZ, hV, hT⟩ := hv
  have hx := B.exec
  have hb := B.bytes
  have hr := B.returns
  have hts := atoms_spec (ws := wsL_melt) B.pre
  have hown : s.vm.findClass RL = some m.cls := findClass_of_methodNamed B.named
  have hlocks := B.notSynchronized
  have htab := vx_table (x := yL_melt) B (hts _ List.mem_cons_self)
  subst hsz
  have hD := hD0.self (sz := s.heap.size)
  generalize hAe : va_A [(h 0, .inr (12, [.ref (h 1), .ref (h 2), .ref (h 3), .ref (h 4), .ref (h 5), .ref (h 6), .ref (h 8), .ref (h 12), .ref (h 11), .int 0, .int 0, .int (-1), .long 0, .long 0])), (h 1, .inr (0, [.int 0, .ref e0, .int 0])), (qo, .inl (cO, 1, .inr (.inl fo)))] s.heap.size = A at hD hZ hT ⊢
  have hA : ∀ q : Nat, s.heap.size ≤ q → A q := fun q h => by rw [← hAe]; exact Or.inr h
  have hS : va_S A s.heap s.heap [] := va_S.rf
  have hP : va_P (dC, dI) vwCl [(h 0, .inr (12, [.ref (h 1), .ref (h 2), .ref (h 3), .ref (h 4), .ref (h 5), .ref (h 6), .ref (h 8), .ref (h 12), .ref (h 11), .int 0, .int 0, .int (-1), .long 0, .long 0])), (h 1, .inr (0, [.int 0, .ref e0, .int 0])), (qo, .inl (cO, 1, .inr (.inl fo)))] s.heap := hP
  have hl := lv_entry ([.ref (h 0), .int p0, .int p1, .ref qo]) (n := 5) (Nat.le_of_ble_eq_true rfl)
  rw [lg_entry_eq]
  generalize (lg_sl ([.ref (h 0), .int p0, .int p1, .ref qo]) ++ List.replicate (5 - (lg_sl ([.ref (h 0), .int p0, .int p1, .ref qo])).length) Slot.unset).toArray = ls at hl ⊢
  have hl : lv_has ls 5 [(0, .ref (h 0)), (1, .int p0), (2, .int p1), (3, .ref qo)] := hl
  refine lv_aload_n hx hb dL_melt_0 rfl (lv_at hl 3 rfl) ?_
  refine lv_iconst (v := 0) hx hb dL_melt_1 (by decide) ?_
  refine lv_aload_n hx hb dL_melt_2 rfl (lv_at hl 0 rfl) ?_
  refine lv_iload_n hx hb dL_melt_3 rfl (lv_at hl 1 rfl) ?_
  refine lv_iload_n hx hb dL_melt_4 rfl (lv_at hl 2 rfl) ?_
  have hPc := hP.sub (ws' := [(h 0, .inr (12, [.ref (h 1), .ref (h 2), .ref (h 3), .ref (h 4), .ref (h 5), .ref (h 6), .ref (h 8), .ref (h 12), .ref (h 11), .int 0, .int 0, .int (-1), .long 0, .long 0])), (h 1, .inr (0, [.int 0, .ref e0, .int 0]))]) [0, 1] rfl
  have hDc := hD.sub (ws' := [(h 0, .inr (12, [.ref (h 1), .ref (h 2), .ref (h 3), .ref (h 4), .ref (h 5), .ref (h 6), .ref (h 8), .ref (h 12), .ref (h 11), .int 0, .int 0, .int (-1), .long 0, .long 0])), (h 1, .inr (0, [.int 0, .ref e0, .int 0]))]) [0, 1] (by decide) rfl
  have hKc := hK.sub (tys' := []) [] rfl
  have hFc := va_free (wc := [(h 0, .inr (12, [.ref (h 1), .ref (h 2), .ref (h 3), .ref (h 4), .ref (h 5), .ref (h 6), .ref (h 8), .ref (h 12), .ref (h 11), .int 0, .int 0, .int (-1), .long 0, .long 0])), (h 1, .inr (0, [.int 0, .ref e0, .int 0]))]) hD hS hA [0, 1] rfl
  refine vx_callv (vx_runV (As := [.int p0, .int p1]) (rest := [.int 0, .ref qo]) ⟨hx, hb, hml, hown, hts⟩ (c_X11_melt l hlt e0 dC dI s.heap.size h p0 p1) (cwV 2 hts gL_melt_X11_melt rfl rfl rfl (by decide +kernel) ⟨Nat.le_of_ble_eq_true rfl, Nat.le_of_ble_eq_true rfl⟩) (pz_preV [.int p0, .int p1] hPc hDc hKc hZ hV hT hS hFc (va_recv hKc hPc (ci := 12) (q0 := 0) rfl rfl)) rfl rfl hl.1 rfl (lv_room (Nat.le_of_ble_eq_true rfl)) dL_melt_5 ⟨Nat.le_of_ble_eq_true rfl, Nat.le_of_ble_eq_true rfl⟩) hS (fun q _ h => hFc q h) hFc (fun q _ h => hFc q h) (fun E ce qx_5 u_2 t H locs ht hvm hpx hE hz1 hk1 hS hce hcv hcl => ?_) (fun u_2 t H locs ht hvm hw_3 hB_4 hz1 hk1 hS => ?_)
  ·
    obtain ⟨hP, hD⟩ := pz_rest (wr := [(qo, .inl (cO, 1, .inr (.inl fo)))]) hP hD [0, 1] [2] rfl rfl (by decide) (by decide) hk1 hFc
    subst hE
    refine pq_catch hown _ htab (by decide) (by decide) (hts (.classLink RL 13 pz_N) (by decide +kernel)) (va_any rfl hV.2.2.2.1.2.2.2.1) hce hcv hcl ?_
    refine W.eq (g2 := F0 m 13 ls [.ref qx_5]) rfl ?_
    refine lv_astore (lv' := [(4, .ref qx_5), (0, .ref (h 0)), (1, .int p0), (2, .int p1), (3, .ref qo)]) hx hb dL_melt_13 hl (by decide) rfl (fun ls hl => ?_)
    refine lv_iconst (v := 1) hx hb dL_melt_15 (by decide) ?_
    refine W.widen (k := 1) (n := 6) (Nat.le_of_ble_eq_true rfl) (Nat.le_of_ble_eq_true rfl) ?_
    refine vx_ret ?_
    exact W.iret (v := 1) hx hb hr (fun t ht hW => ⟨⟨1, (), rfl, rfl, trivial⟩, hS.F ht⟩) hS.2.2 dL_melt_16
  · exact hw_3.elim
set_option maxHeartbeats 8000000 in
set_option maxRecDepth 100000 in
/-- the wrapper of boom -/
theorem c_L_boom (l : Launch) (hlt : l.stackTraces = false) (e0 : Nat) (dC : Nat → ClassId) (dI : Nat → Nat → Nat) (sz : Nat) (h : Nat → Nat) (qo : Nat) (cO : ClassId) (fo : Nat → Int64) (p0 p1 p2 : Int32) : vx_Met l yL_boom wsL_boom ({ frames := 8, cells := 1, slots := 6, locals := 127 }) (va_Pc [.ref (h 0), .int p0, .int p1, .int p2, .ref qo] (pz_P e0 (dC, dI) [(cO, .long)] [(h 0, .inr (12, [.ref (h 1), .ref (h 2), .ref (h 3), .ref (h 4), .ref (h 5), .ref (h 6), .ref (h 8), .ref (h 12), .ref (h 11), .int 0, .int 0, .int (-1), .long 0, .long 0])), (h 1, .inr (0, [.int 0, .ref e0, .int 0])), (qo, .inl (cO, 1, .inr (.inl fo)))] sz)) (va_Qi (S := Unit) (fun (r : Int32) (_ : Unit) => r = 1) (fun _ _ => True) (va_A [(h 0, .inr (12, [.ref (h 1), .ref (h 2), .ref (h 3), .ref (h 4), .ref (h 5), .ref (h 6), .ref (h 8), .ref (h 12), .ref (h 11), .int 0, .int 0, .int (-1), .long 0, .long 0])), (h 1, .inr (0, [.int 0, .ref e0, .int 0])), (qo, .inl (cO, 1, .inr (.inl fo)))] sz)) (pz_X pz_N False (va_A [(h 0, .inr (12, [.ref (h 1), .ref (h 2), .ref (h 3), .ref (h 4), .ref (h 5), .ref (h 6), .ref (h 8), .ref (h 12), .ref (h 11), .int 0, .int 0, .int (-1), .long 0, .long 0])), (h 1, .inr (0, [.int 0, .ref e0, .int 0])), (qo, .inl (cO, 1, .inr (.inl fo)))] sz)) 1 6 (va_A [(h 0, .inr (12, [.ref (h 1), .ref (h 2), .ref (h 3), .ref (h 4), .ref (h 5), .ref (h 6), .ref (h 8), .ref (h 12), .ref (h 11), .int 0, .int 0, .int (-1), .long 0, .long 0])), (h 1, .inr (0, [.int 0, .ref e0, .int 0])), (qo, .inl (cO, 1, .inr (.inl fo)))] sz) := by
  refine vx_ofWH (cc := cL_boom) (maxL := 6) (ret := (some .int)) (hh := [(0, 19, 22, 13)]) (by decide) rfl ?_
  intro p e s m args below meth c s₁ B hml hv
  obtain ⟨rfl, hsz, hP, hK, hD0, hZ, hV, hT⟩ := hv
  have hx := B.exec
  have hb := B.bytes
  have hr := B.returns
  have hts := atoms_spec (ws := wsL_boom) B.pre
  have hown : s.vm.findClass RL = some m.cls := findClass_of_methodNamed B.named
  have hlocks := B.notSynchronized
  have htab := vx_table (x := yL_boom) B (hts _ List.mem_cons_self)
  subst hsz
  have hD := hD0.self (sz := s.heap.size)
  generalize hAe : va_A [(h 0, .inr (12, [.ref (h 1), .ref (h 2), .ref (h 3), .ref (h 4), .ref (h 5), .ref (h 6), .ref (h 8), .ref (h 12), .ref (h 11), .int 0, .int 0, .int (-1), .long 0, .long 0])), (h 1, .inr (0, [.int 0, .ref e0, .int 0])), (qo, .inl (cO, 1, .inr (.inl fo)))] s.heap.size = A at hD hZ hT ⊢
  have hA : ∀ q : Nat, s.heap.size ≤ q → A q := fun q h => by rw [← hAe]; exact Or.inr h
  have hS : va_S A s.heap s.heap [] := va_S.rf
  have hP : va_P (dC, dI) vwCl [(h 0, .inr (12, [.ref (h 1), .ref (h 2), .ref (h 3), .ref (h 4), .ref (h 5), .ref (h 6), .ref (h 8), .ref (h 12), .ref (h 11), .int 0, .int 0, .int (-1), .long 0, .long 0])), (h 1, .inr (0, [.int 0, .ref e0, .int 0])), (qo, .inl (cO, 1, .inr (.inl fo)))] s.heap := hP
  have hl := lv_entry ([.ref (h 0), .int p0, .int p1, .int p2, .ref qo]) (n := 6) (Nat.le_of_ble_eq_true rfl)
  rw [lg_entry_eq]
  generalize (lg_sl ([.ref (h 0), .int p0, .int p1, .int p2, .ref qo]) ++ List.replicate (6 - (lg_sl ([.ref (h 0), .int p0, .int p1, .int p2, .ref qo])).length) Slot.unset).toArray = ls at hl ⊢
  have hl : lv_has ls 6 [(0, .ref (h 0)), (1, .int p0), (2, .int p1), (3, .int p2), (4, .ref qo)] := hl
  refine lv_aload hx hb dL_boom_0 (lv_at hl 4 rfl) ?_
  refine lv_iconst (v := 0) hx hb dL_boom_2 (by decide) ?_
  refine lv_aload_n hx hb dL_boom_3 rfl (lv_at hl 0 rfl) ?_
  refine lv_iload_n hx hb dL_boom_4 rfl (lv_at hl 1 rfl) ?_
  refine lv_iload_n hx hb dL_boom_5 rfl (lv_at hl 2 rfl) ?_
  refine lv_iload_n hx hb dL_boom_6 rfl (lv_at hl 3 rfl) ?_
  have hPc := hP.sub (ws' := [(h 0, .inr (12, [.ref (h 1), .ref (h 2), .ref (h 3), .ref (h 4), .ref (h 5), .ref (h 6), .ref (h 8), .ref (h 12), .ref (h 11), .int 0, .int 0, .int (-1), .long 0, .long 0])), (h 1, .inr (0, [.int 0, .ref e0, .int 0]))]) [0, 1] rfl
  have hDc := hD.sub (ws' := [(h 0, .inr (12, [.ref (h 1), .ref (h 2), .ref (h 3), .ref (h 4), .ref (h 5), .ref (h 6), .ref (h 8), .ref (h 12), .ref (h 11), .int 0, .int 0, .int (-1), .long 0, .long 0])), (h 1, .inr (0, [.int 0, .ref e0, .int 0]))]) [0, 1] (by decide) rfl
  have hKc := hK.sub (tys' := []) [] rfl
  have hFc := va_free (wc := [(h 0, .inr (12, [.ref (h 1), .ref (h 2), .ref (h 3), .ref (h 4), .ref (h 5), .ref (h 6), .ref (h 8), .ref (h 12), .ref (h 11), .int 0, .int 0, .int (-1), .long 0, .long 0])), (h 1, .inr (0, [.int 0, .ref e0, .int 0]))]) hD hS hA [0, 1] rfl
  refine vx_callv (vx_runV (As := [.int p0, .int p1, .int p2]) (rest := [.int 0, .ref qo]) ⟨hx, hb, hml, hown, hts⟩ (c_X11_boom l hlt e0 dC dI s.heap.size h p0 p1 p2) (cwV 3 hts gL_boom_X11_boom rfl rfl rfl (by decide +kernel) ⟨Nat.le_of_ble_eq_true rfl, Nat.le_of_ble_eq_true rfl⟩) (pz_preV [.int p0, .int p1, .int p2] hPc hDc hKc hZ hV hT hS hFc (va_recv hKc hPc (ci := 12) (q0 := 0) rfl rfl)) rfl rfl hl.1 rfl (lv_room (Nat.le_of_ble_eq_true rfl)) dL_boom_7 ⟨Nat.le_of_ble_eq_true rfl, Nat.le_of_ble_eq_true rfl⟩) hS (fun q _ h => hFc q h) hFc (fun q _ h => hFc q h) (fun E ce qx_5 u_2 t H locs ht hvm hpx hE hz1 hk1 hS hce hcv hcl => ?_) (fun u_2 t H locs ht hvm hw_3 hB_4 hz1 hk1 hS => ?_)
  ·
    obtain ⟨hP, hD⟩ := pz_rest (wr := [(qo, .inl (cO, 1, .inr (.inl fo)))]) hP hD [0, 1] [2] rfl rfl (by decide) (by decide) hk1 hFc
    subst hE
    refine pq_catch hown _ htab (by decide) (by decide) (hts (.classLink RL 13 pz_N) (by decide +kernel)) (va_any rfl hV.2.2.2.1.2.2.2.1) hce hcv hcl ?_
    refine W.eq (g2 := F0 m 22 ls [.ref qx_5]) rfl ?_
    refine lv_astore (lv' := [(5, .ref qx_5), (0, .ref (h 0)), (1, .int p0), (2, .int p1), (3, .int p2), (4, .ref qo)]) hx hb dL_boom_22 hl (by decide) rfl (fun ls hl => ?_)
    refine lv_iconst (v := 1) hx hb dL_boom_24 (by decide) ?_
    refine W.widen (k := 1) (n := 6) (Nat.le_of_ble_eq_true rfl) (Nat.le_of_ble_eq_true rfl) ?_
    refine vx_ret ?_
    exact W.iret (v := 1) hx hb hr (fun t ht hW => ⟨⟨1, (), rfl, rfl, trivial⟩, hS.F ht⟩) hS.2.2 dL_boom_25
  · exact hw_3.elim
set_option maxHeartbeats 8000000 in
set_option maxRecDepth 100000 in
/-- the wrapper of watch -/
theorem c_L_watch (l : Launch) (hlt : l.stackTraces = false) (e0 : Nat) (dC : Nat → ClassId) (dI : Nat → Nat → Nat) (sz : Nat) (h : Nat → Nat) (qo : Nat) (cO : ClassId) (fo : Nat → Int64) (p0 p1 : Int32) : vx_Met l yL_watch wsL_watch ({ frames := 8, cells := 1, slots := 6, locals := 127 }) (va_Pc [.ref (h 0), .int p0, .int p1, .ref qo] (pz_P e0 (dC, dI) [(cO, .long)] [(h 0, .inr (12, [.ref (h 1), .ref (h 2), .ref (h 3), .ref (h 4), .ref (h 5), .ref (h 6), .ref (h 8), .ref (h 12), .ref (h 11), .int 0, .int 0, .int (-1), .long 0, .long 0])), (h 1, .inr (0, [.int 0, .ref e0, .int 0])), (qo, .inl (cO, 1, .inr (.inl fo)))] sz)) (va_Qi (S := Unit) (fun (r : Int32) (_ : Unit) => r = 1) (fun _ _ => True) (va_A [(h 0, .inr (12, [.ref (h 1), .ref (h 2), .ref (h 3), .ref (h 4), .ref (h 5), .ref (h 6), .ref (h 8), .ref (h 12), .ref (h 11), .int 0, .int 0, .int (-1), .long 0, .long 0])), (h 1, .inr (0, [.int 0, .ref e0, .int 0])), (qo, .inl (cO, 1, .inr (.inl fo)))] sz)) (pz_X pz_N False (va_A [(h 0, .inr (12, [.ref (h 1), .ref (h 2), .ref (h 3), .ref (h 4), .ref (h 5), .ref (h 6), .ref (h 8), .ref (h 12), .ref (h 11), .int 0, .int 0, .int (-1), .long 0, .long 0])), (h 1, .inr (0, [.int 0, .ref e0, .int 0])), (qo, .inl (cO, 1, .inr (.inl fo)))] sz)) 1 6 (va_A [(h 0, .inr (12, [.ref (h 1), .ref (h 2), .ref (h 3), .ref (h 4), .ref (h 5), .ref (h 6), .ref (h 8), .ref (h 12), .ref (h 11), .int 0, .int 0, .int (-1), .long 0, .long 0])), (h 1, .inr (0, [.int 0, .ref e0, .int 0])), (qo, .inl (cO, 1, .inr (.inl fo)))] sz) := by
  refine vx_ofWH (cc := cL_watch) (maxL := 5) (ret := (some .int)) (hh := [(0, 17, 20, 13)]) (by decide) rfl ?_
  intro p e s m args below meth c s₁ B hml hv
  obtain ⟨rfl, hsz, hP, hK, hD0, hZ, hV, hT⟩ := hv
  have hx := B.exec
  have hb := B.bytes
  have hr := B.returns
  have hts := atoms_spec (ws := wsL_watch) B.pre
  have hown : s.vm.findClass RL = some m.cls := findClass_of_methodNamed B.named
  have hlocks := B.notSynchronized
  have htab := vx_table (x := yL_watch) B (hts _ List.mem_cons_self)
  subst hsz
  have hD := hD0.self (sz := s.heap.size)
  generalize hAe : va_A [(h 0, .inr (12, [.ref (h 1), .ref (h 2), .ref (h 3), .ref (h 4), .ref (h 5), .ref (h 6), .ref (h 8), .ref (h 12), .ref (h 11), .int 0, .int 0, .int (-1), .long 0, .long 0])), (h 1, .inr (0, [.int 0, .ref e0, .int 0])), (qo, .inl (cO, 1, .inr (.inl fo)))] s.heap.size = A at hD hZ hT ⊢
  have hA : ∀ q : Nat, s.heap.size ≤ q → A q := fun q h => by rw [← hAe]; exact Or.inr h
  have hS : va_S A s.heap s.heap [] := va_S.rf
  have hP : va_P (dC, dI) vwCl [(h 0, .inr (12, [.ref (h 1), .ref (h 2), .ref (h 3), .ref (h 4), .ref (h 5), .ref (h 6), .ref (h 8), .ref (h 12), .ref (h 11), .int 0, .int 0, .int (-1), .long 0, .long 0])), (h 1, .inr (0, [.int 0, .ref e0, .int 0])), (qo, .inl (cO, 1, .inr (.inl fo)))] s.heap := hP
  have hl := lv_entry ([.ref (h 0), .int p0, .int p1, .ref qo]) (n := 5) (Nat.le_of_ble_eq_true rfl)
  rw [lg_entry_eq]
  generalize (lg_sl ([.ref (h 0), .int p0, .int p1, .ref qo]) ++ List.replicate (5 - (lg_sl ([.ref (h 0), .int p0, .int p1, .ref qo])).length) Slot.unset).toArray = ls at hl ⊢
  have hl : lv_has ls 5 [(0, .ref (h 0)), (1, .int p0), (2, .int p1), (3, .ref qo)] := hl
  refine lv_aload_n hx hb dL_watch_0 rfl (lv_at hl 3 rfl) ?_
  refine lv_iconst (v := 0) hx hb dL_watch_1 (by decide) ?_
  refine lv_aload_n hx hb dL_watch_2 rfl (lv_at hl 0 rfl) ?_
  refine lv_iload_n hx hb dL_watch_3 rfl (lv_at hl 1 rfl) ?_
  refine lv_iload_n hx hb dL_watch_4 rfl (lv_at hl 2 rfl) ?_
  have hPc := hP.sub (ws' := [(h 0, .inr (12, [.ref (h 1), .ref (h 2), .ref (h 3), .ref (h 4), .ref (h 5), .ref (h 6), .ref (h 8), .ref (h 12), .ref (h 11), .int 0, .int 0, .int (-1), .long 0, .long 0])), (h 1, .inr (0, [.int 0, .ref e0, .int 0]))]) [0, 1] rfl
  have hDc := hD.sub (ws' := [(h 0, .inr (12, [.ref (h 1), .ref (h 2), .ref (h 3), .ref (h 4), .ref (h 5), .ref (h 6), .ref (h 8), .ref (h 12), .ref (h 11), .int 0, .int 0, .int (-1), .long 0, .long 0])), (h 1, .inr (0, [.int 0, .ref e0, .int 0]))]) [0, 1] (by decide) rfl
  have hKc := hK.sub (tys' := []) [] rfl
  have hFc := va_free (wc := [(h 0, .inr (12, [.ref (h 1), .ref (h 2), .ref (h 3), .ref (h 4), .ref (h 5), .ref (h 6), .ref (h 8), .ref (h 12), .ref (h 11), .int 0, .int 0, .int (-1), .long 0, .long 0])), (h 1, .inr (0, [.int 0, .ref e0, .int 0]))]) hD hS hA [0, 1] rfl
  refine vx_callv (vx_runV (As := [.int p0, .int p1]) (rest := [.int 0, .ref qo]) ⟨hx, hb, hml, hown, hts⟩ (c_X11_watch l hlt e0 dC dI s.heap.size h p0 p1) (cwV 2 hts gL_watch_X11_watch rfl rfl rfl (by decide +kernel) ⟨Nat.le_of_ble_eq_true rfl, Nat.le_of_ble_eq_true rfl⟩) (pz_preV [.int p0, .int p1] hPc hDc hKc hZ hV hT hS hFc (va_recv hKc hPc (ci := 12) (q0 := 0) rfl rfl)) rfl rfl hl.1 rfl (lv_room (Nat.le_of_ble_eq_true rfl)) dL_watch_5 ⟨Nat.le_of_ble_eq_true rfl, Nat.le_of_ble_eq_true rfl⟩) hS (fun q _ h => hFc q h) hFc (fun q _ h => hFc q h) (fun E ce qx_5 u_2 t H locs ht hvm hpx hE hz1 hk1 hS hce hcv hcl => ?_) (fun u_2 t H locs ht hvm hw_3 hB_4 hz1 hk1 hS => ?_)
  ·
    obtain ⟨hP, hD⟩ := pz_rest (wr := [(qo, .inl (cO, 1, .inr (.inl fo)))]) hP hD [0, 1] [2] rfl rfl (by decide) (by decide) hk1 hFc
    subst hE
    refine pq_catch hown _ htab (by decide) (by decide) (hts (.classLink RL 13 pz_N) (by decide +kernel)) (va_any rfl hV.2.2.2.1.2.2.2.1) hce hcv hcl ?_
    refine W.eq (g2 := F0 m 20 ls [.ref qx_5]) rfl ?_
    refine lv_astore (lv' := [(4, .ref qx_5), (0, .ref (h 0)), (1, .int p0), (2, .int p1), (3, .ref qo)]) hx hb dL_watch_20 hl (by decide) rfl (fun ls hl => ?_)
    refine lv_iconst (v := 1) hx hb dL_watch_22 (by decide) ?_
    refine W.widen (k := 1) (n := 6) (Nat.le_of_ble_eq_true rfl) (Nat.le_of_ble_eq_true rfl) ?_
    refine vx_ret ?_
    exact W.iret (v := 1) hx hb hr (fun t ht hW => ⟨⟨1, (), rfl, rfl, trivial⟩, hS.F ht⟩) hS.2.2 dL_watch_23
  · exact hw_3.elim
set_option maxHeartbeats 8000000 in
set_option maxRecDepth 100000 in
/-- the wrapper of crew -/
theorem c_L_crew (l : Launch) (hlt : l.stackTraces = false) (e0 : Nat) (dC : Nat → ClassId) (dI : Nat → Nat → Nat) (sz : Nat) (h : Nat → Nat) (qo : Nat) (cO : ClassId) (fo : Nat → Int64) (p0 p1 : Int32) : vx_Met l yL_crew wsL_crew ({ frames := 8, cells := 1, slots := 6, locals := 127 }) (va_Pc [.ref (h 0), .int p0, .int p1, .ref qo] (pz_P e0 (dC, dI) [(cO, .long)] [(h 0, .inr (12, [.ref (h 1), .ref (h 2), .ref (h 3), .ref (h 4), .ref (h 5), .ref (h 6), .ref (h 8), .ref (h 12), .ref (h 11), .int 0, .int 0, .int (-1), .long 0, .long 0])), (h 1, .inr (0, [.int 0, .ref e0, .int 0])), (qo, .inl (cO, 1, .inr (.inl fo)))] sz)) (va_Qi (S := Unit) (fun (r : Int32) (_ : Unit) => r = 1) (fun _ _ => True) (va_A [(h 0, .inr (12, [.ref (h 1), .ref (h 2), .ref (h 3), .ref (h 4), .ref (h 5), .ref (h 6), .ref (h 8), .ref (h 12), .ref (h 11), .int 0, .int 0, .int (-1), .long 0, .long 0])), (h 1, .inr (0, [.int 0, .ref e0, .int 0])), (qo, .inl (cO, 1, .inr (.inl fo)))] sz)) (pz_X pz_N False (va_A [(h 0, .inr (12, [.ref (h 1), .ref (h 2), .ref (h 3), .ref (h 4), .ref (h 5), .ref (h 6), .ref (h 8), .ref (h 12), .ref (h 11), .int 0, .int 0, .int (-1), .long 0, .long 0])), (h 1, .inr (0, [.int 0, .ref e0, .int 0])), (qo, .inl (cO, 1, .inr (.inl fo)))] sz)) 1 6 (va_A [(h 0, .inr (12, [.ref (h 1), .ref (h 2), .ref (h 3), .ref (h 4), .ref (h 5), .ref (h 6), .ref (h 8), .ref (h 12), .ref (h 11), .int 0, .int 0, .int (-1), .long 0, .long 0])), (h 1, .inr (0, [.int 0, .ref e0, .int 0])), (qo, .inl (cO, 1, .inr (.inl fo)))] sz) := by
  refine vx_ofWH (cc := cL_crew) (maxL := 5) (ret := (some .int)) (hh := [(0, 10, 13, 13)]) (by decide) rfl ?_
  intro p e s m args below meth c s₁ B hml hv
  obtain ⟨rfl, hsz, hP, hK, hD0, hZ, hV, hT⟩ := hv
  have hx := B.exec
  have hb := B.bytes
  have hr := B.returns
  have hts := atoms_spec (ws := wsL_crew) B.pre
  have hown : s.vm.findClass RL = some m.cls := findClass_of_methodNamed B.named
  have hlocks := B.notSynchronized
  have htab := vx_table (x := yL_crew) B (hts _ List.mem_cons_self)
  subst hsz
  have hD := hD0.self (sz := s.heap.size)
  generalize hAe : va_A [(h 0, .inr (12, [.ref (h 1), .ref (h 2), .ref (h 3), .ref (h 4), .ref (h 5), .ref (h 6), .ref (h 8), .ref (h 12), .ref (h 11), .int 0, .int 0, .int (-1), .long 0, .long 0])), (h 1, .inr (0, [.int 0, .ref e0, .int 0])), (qo, .inl (cO, 1, .inr (.inl fo)))] s.heap.size = A at hD hZ hT ⊢
  have hA : ∀ q : Nat, s.heap.size ≤ q → A q := fun q h => by rw [← hAe]; exact Or.inr h
  have hS : va_S A s.heap s.heap [] := va_S.rf
  have hP : va_P (dC, dI) vwCl [(h 0, .inr (12, [.ref (h 1), .ref (h 2), .ref (h 3), .ref (h 4), .ref (h 5), .ref (h 6), .ref (h 8), .ref (h 12), .ref (h 11), .int 0, .int 0, .int (-1), .long 0, .long 0])), (h 1, .inr (0, [.int 0, .ref e0, .int 0])), (qo, .inl (cO, 1, .inr (.inl fo)))] s.heap := hP
  have hl := lv_entry ([.ref (h 0), .int p0, .int p1, .ref qo]) (n := 5) (Nat.le_of_ble_eq_true rfl)
  rw [lg_entry_eq]
  generalize (lg_sl ([.ref (h 0), .int p0, .int p1, .ref qo]) ++ List.replicate (5 - (lg_sl ([.ref (h 0), .int p0, .int p1, .ref qo])).length) Slot.unset).toArray = ls at hl ⊢
  have hl : lv_has ls 5 [(0, .ref (h 0)), (1, .int p0), (2, .int p1), (3, .ref qo)] := hl
  refine lv_aload_n hx hb dL_crew_0 rfl (lv_at hl 3 rfl) ?_
  refine lv_iconst (v := 0) hx hb dL_crew_1 (by decide) ?_
  refine lv_aload_n hx hb dL_crew_2 rfl (lv_at hl 0 rfl) ?_
  refine lv_iload_n hx hb dL_crew_3 rfl (lv_at hl 1 rfl) ?_
  refine lv_iload_n hx hb dL_crew_4 rfl (lv_at hl 2 rfl) ?_
  have hPc := hP.sub (ws' := [(h 0, .inr (12, [.ref (h 1), .ref (h 2), .ref (h 3), .ref (h 4), .ref (h 5), .ref (h 6), .ref (h 8), .ref (h 12), .ref (h 11), .int 0, .int 0, .int (-1), .long 0, .long 0])), (h 1, .inr (0, [.int 0, .ref e0, .int 0]))]) [0, 1] rfl
  have hDc := hD.sub (ws' := [(h 0, .inr (12, [.ref (h 1), .ref (h 2), .ref (h 3), .ref (h 4), .ref (h 5), .ref (h 6), .ref (h 8), .ref (h 12), .ref (h 11), .int 0, .int 0, .int (-1), .long 0, .long 0])), (h 1, .inr (0, [.int 0, .ref e0, .int 0]))]) [0, 1] (by decide) rfl
  have hKc := hK.sub (tys' := []) [] rfl
  have hFc := va_free (wc := [(h 0, .inr (12, [.ref (h 1), .ref (h 2), .ref (h 3), .ref (h 4), .ref (h 5), .ref (h 6), .ref (h 8), .ref (h 12), .ref (h 11), .int 0, .int 0, .int (-1), .long 0, .long 0])), (h 1, .inr (0, [.int 0, .ref e0, .int 0]))]) hD hS hA [0, 1] rfl
  refine vx_callv (vx_runV (As := [.int p0, .int p1]) (rest := [.int 0, .ref qo]) ⟨hx, hb, hml, hown, hts⟩ (c_X11_crew l hlt e0 dC dI s.heap.size h p0 p1) (cwV 2 hts gL_crew_X11_crew rfl rfl rfl (by decide +kernel) ⟨Nat.le_of_ble_eq_true rfl, Nat.le_of_ble_eq_true rfl⟩) (pz_preV [.int p0, .int p1] hPc hDc hKc hZ hV hT hS hFc (va_recv hKc hPc (ci := 12) (q0 := 0) rfl rfl)) rfl rfl hl.1 rfl (lv_room (Nat.le_of_ble_eq_true rfl)) dL_crew_5 ⟨Nat.le_of_ble_eq_true rfl, Nat.le_of_ble_eq_true rfl⟩) hS (fun q _ h => hFc q h) hFc (fun q _ h => hFc q h) (fun E ce qx_5 u_2 t H locs ht hvm hpx hE hz1 hk1 hS hce hcv hcl => ?_) (fun u_2 t H locs ht hvm hw_3 hB_4 hz1 hk1 hS => ?_)
  ·
    obtain ⟨hP, hD⟩ := pz_rest (wr := [(qo, .inl (cO, 1, .inr (.inl fo)))]) hP hD [0, 1] [2] rfl rfl (by decide) (by decide) hk1 hFc
    subst hE
    refine pq_catch hown _ htab (by decide) (by decide) (hts (.classLink RL 13 pz_N) (by decide +kernel)) (va_any rfl hV.2.2.2.1.2.2.2.1) hce hcv hcl ?_
    refine W.eq (g2 := F0 m 13 ls [.ref qx_5]) rfl ?_
    refine lv_astore (lv' := [(4, .ref qx_5), (0, .ref (h 0)), (1, .int p0), (2, .int p1), (3, .ref qo)]) hx hb dL_crew_13 hl (by decide) rfl (fun ls hl => ?_)
    refine lv_iconst (v := 1) hx hb dL_crew_15 (by decide) ?_
    refine W.widen (k := 1) (n := 6) (Nat.le_of_ble_eq_true rfl) (Nat.le_of_ble_eq_true rfl) ?_
    refine vx_ret ?_
    exact W.iret (v := 1) hx hb hr (fun t ht hW => ⟨⟨1, (), rfl, rfl, trivial⟩, hS.F ht⟩) hS.2.2 dL_crew_16
  · exact hw_3.elim
set_option maxHeartbeats 8000000 in
set_option maxRecDepth 100000 in
/-- the wrapper of let -/
theorem c_L_let (l : Launch) (hlt : l.stackTraces = false) (e0 : Nat) (dC : Nat → ClassId) (dI : Nat → Nat → Nat) (sz : Nat) (h : Nat → Nat) (qo : Nat) (cO : ClassId) (fo : Nat → Int64) (p0 p1 p2 : Int32) : vx_Met l yL_let wsL_let ({ frames := 8, cells := 1, slots := 6, locals := 128 }) (va_Pc [.ref (h 0), .int p0, .int p1, .int p2, .ref qo] (pz_P e0 (dC, dI) [(cO, .long)] [(h 0, .inr (12, [.ref (h 1), .ref (h 2), .ref (h 3), .ref (h 4), .ref (h 5), .ref (h 6), .ref (h 8), .ref (h 12), .ref (h 11), .int 0, .int 0, .int (-1), .long 0, .long 0])), (h 2, .inr (0, [.int 0, .ref e0, .int 0])), (qo, .inl (cO, 1, .inr (.inl fo)))] sz)) (va_Qi (S := Unit) (fun (r : Int32) (_ : Unit) => r = 1) (fun _ _ => True) (va_A [(h 0, .inr (12, [.ref (h 1), .ref (h 2), .ref (h 3), .ref (h 4), .ref (h 5), .ref (h 6), .ref (h 8), .ref (h 12), .ref (h 11), .int 0, .int 0, .int (-1), .long 0, .long 0])), (h 2, .inr (0, [.int 0, .ref e0, .int 0])), (qo, .inl (cO, 1, .inr (.inl fo)))] sz)) (pz_X pz_N False (va_A [(h 0, .inr (12, [.ref (h 1), .ref (h 2), .ref (h 3), .ref (h 4), .ref (h 5), .ref (h 6), .ref (h 8), .ref (h 12), .ref (h 11), .int 0, .int 0, .int (-1), .long 0, .long 0])), (h 2, .inr (0, [.int 0, .ref e0, .int 0])), (qo, .inl (cO, 1, .inr (.inl fo)))] sz)) 1 6 (va_A [(h 0, .inr (12, [.ref (h 1), .ref (h 2), .ref (h 3), .ref (h 4), .ref (h 5), .ref (h 6), .ref (h 8), .ref (h 12), .ref (h 11), .int 0, .int 0, .int (-1), .long 0, .long 0])), (h 2, .inr (0, [.int 0, .ref e0, .int 0])), (qo, .inl (cO, 1, .inr (.inl fo)))] sz) := by
  refine vx_ofWH (cc := cL_let) (maxL := 6) (ret := (some .int)) (hh := [(0, 12, 15, 13)]) (by decide) rfl ?_
  intro p e s m args below meth c s₁ B hml hv
  obtain ⟨rfl, hsz, hP, hK, hD0, hZ, hV, hT⟩ := hv
  have hx := B.exec
  have hb := B.bytes
  have hr := B.returns
  have hts := atoms_spec (ws := wsL_let) B.pre
  have hown : s.vm.findClass RL = some m.cls := findClass_of_methodNamed B.named
  have hlocks := B.notSynchronized
  have htab := vx_table (x := yL_let) B (hts _ List.mem_cons_self)
  subst hsz
  have hD := hD0.self (sz := s.heap.size)
  generalize hAe : va_A [(h 0, .inr (12, [.ref (h 1), .ref (h 2), .ref (h 3), .ref (h 4), .ref (h 5), .ref (h 6), .ref (h 8), .ref (h 12), .ref (h 11), .int 0, .int 0, .int (-1), .long 0, .long 0])), (h 2, .inr (0, [.int 0, .ref e0, .int 0])), (qo, .inl (cO, 1, .inr (.inl fo)))] s.heap.size = A at hD hZ hT ⊢
  have hA : ∀ q : Nat, s.heap.size ≤ q → A q := fun q h => by rw [← hAe]; exact Or.inr h
  have hS : va_S A s.heap s.heap [] := va_S.rf
  have hP : va_P (dC, dI) vwCl [(h 0, .inr (12, [.ref (h 1), .ref (h 2), .ref (h 3), .ref (h 4), .ref (h 5), .ref (h 6), .ref (h 8), .ref (h 12), .ref (h 11), .int 0, .int 0, .int (-1), .long 0, .long 0])), (h 2, .inr (0, [.int 0, .ref e0, .int 0])), (qo, .inl (cO, 1, .inr (.inl fo)))] s.heap := hP
  have hl := lv_entry ([.ref (h 0), .int p0, .int p1, .int p2, .ref qo]) (n := 6) (Nat.le_of_ble_eq_true rfl)
  rw [lg_entry_eq]
  generalize (lg_sl ([.ref (h 0), .int p0, .int p1, .int p2, .ref qo]) ++ List.replicate (6 - (lg_sl ([.ref (h 0), .int p0, .int p1, .int p2, .ref qo])).length) Slot.unset).toArray = ls at hl ⊢
  have hl : lv_has ls 6 [(0, .ref (h 0)), (1, .int p0), (2, .int p1), (3, .int p2), (4, .ref qo)] := hl
  refine lv_aload hx hb dL_let_0 (lv_at hl 4 rfl) ?_
  refine lv_iconst (v := 0) hx hb dL_let_2 (by decide) ?_
  refine lv_aload_n hx hb dL_let_3 rfl (lv_at hl 0 rfl) ?_
  refine lv_iload_n hx hb dL_let_4 rfl (lv_at hl 1 rfl) ?_
  refine lv_iload_n hx hb dL_let_5 rfl (lv_at hl 2 rfl) ?_
  refine lv_iload_n hx hb dL_let_6 rfl (lv_at hl 3 rfl) ?_
  have hPc := hP.sub (ws' := [(h 0, .inr (12, [.ref (h 1), .ref (h 2), .ref (h 3), .ref (h 4), .ref (h 5), .ref (h 6), .ref (h 8), .ref (h 12), .ref (h 11), .int 0, .int 0, .int (-1), .long 0, .long 0])), (h 2, .inr (0, [.int 0, .ref e0, .int 0]))]) [0, 1] rfl
  have hDc := hD.sub (ws' := [(h 0, .inr (12, [.ref (h 1), .ref (h 2), .ref (h 3), .ref (h 4), .ref (h 5), .ref (h 6), .ref (h 8), .ref (h 12), .ref (h 11), .int 0, .int 0, .int (-1), .long 0, .long 0])), (h 2, .inr (0, [.int 0, .ref e0, .int 0]))]) [0, 1] (by decide) rfl
  have hKc := hK.sub (tys' := []) [] rfl
  have hFc := va_free (wc := [(h 0, .inr (12, [.ref (h 1), .ref (h 2), .ref (h 3), .ref (h 4), .ref (h 5), .ref (h 6), .ref (h 8), .ref (h 12), .ref (h 11), .int 0, .int 0, .int (-1), .long 0, .long 0])), (h 2, .inr (0, [.int 0, .ref e0, .int 0]))]) hD hS hA [0, 1] rfl
  refine vx_callv (vx_runV (As := [.int p0, .int p1, .int p2]) (rest := [.int 0, .ref qo]) ⟨hx, hb, hml, hown, hts⟩ (c_X11_let l hlt e0 dC dI s.heap.size h p0 p1 p2) (cwV 3 hts gL_let_X11_let rfl rfl rfl (by decide +kernel) ⟨Nat.le_of_ble_eq_true rfl, Nat.le_of_ble_eq_true rfl⟩) (pz_preV [.int p0, .int p1, .int p2] hPc hDc hKc hZ hV hT hS hFc (va_recv hKc hPc (ci := 12) (q0 := 0) rfl rfl)) rfl rfl hl.1 rfl (lv_room (Nat.le_of_ble_eq_true rfl)) dL_let_7 ⟨Nat.le_of_ble_eq_true rfl, Nat.le_of_ble_eq_true rfl⟩) hS (fun q _ h => hFc q h) hFc (fun q _ h => hFc q h) (fun E ce qx_5 u_2 t H locs ht hvm hpx hE hz1 hk1 hS hce hcv hcl => ?_) (fun u_2 t H locs ht hvm hw_3 hB_4 hz1 hk1 hS => ?_)
  ·
    obtain ⟨hP, hD⟩ := pz_rest (wr := [(qo, .inl (cO, 1, .inr (.inl fo)))]) hP hD [0, 1] [2] rfl rfl (by decide) (by decide) hk1 hFc
    subst hE
    refine pq_catch hown _ htab (by decide) (by decide) (hts (.classLink RL 13 pz_N) (by decide +kernel)) (va_any rfl hV.2.2.2.1.2.2.2.1) hce hcv hcl ?_
    refine W.eq (g2 := F0 m 15 ls [.ref qx_5]) rfl ?_
    refine lv_astore (lv' := [(5, .ref qx_5), (0, .ref (h 0)), (1, .int p0), (2, .int p1), (3, .int p2), (4, .ref qo)]) hx hb dL_let_15 hl (by decide) rfl (fun ls hl => ?_)
    refine lv_iconst (v := 1) hx hb dL_let_17 (by decide) ?_
    refine W.widen (k := 1) (n := 6) (Nat.le_of_ble_eq_true rfl) (Nat.le_of_ble_eq_true rfl) ?_
    refine vx_ret ?_
    exact W.iret (v := 1) hx hb hr (fun t ht hW => ⟨⟨1, (), rfl, rfl, trivial⟩, hS.F ht⟩) hS.2.2 dL_let_18
  · exact hw_3.elim
set_option maxHeartbeats 8000000 in
set_option maxRecDepth 100000 in
/-- the wrapper of order -/
theorem c_L_order (l : Launch) (hlt : l.stackTraces = false) (e0 : Nat) (dC : Nat → ClassId) (dI : Nat → Nat → Nat) (sz : Nat) (h : Nat → Nat) (qo : Nat) (cO : ClassId) (fo : Nat → Int64) (p0 p1 p2 p3 : Int32) : vx_Met l yL_order wsL_order ({ frames := 8, cells := 1, slots := 6, locals := 129 }) (va_Pc [.ref (h 0), .int p0, .int p1, .int p2, .int p3, .ref qo] (pz_P e0 (dC, dI) [(cO, .long)] [(h 0, .inr (12, [.ref (h 1), .ref (h 2), .ref (h 3), .ref (h 4), .ref (h 5), .ref (h 6), .ref (h 8), .ref (h 12), .ref (h 11), .int 0, .int 0, .int (-1), .long 0, .long 0])), (h 1, .inr (0, [.int 0, .ref e0, .int 0])), (qo, .inl (cO, 1, .inr (.inl fo)))] sz)) (va_Qi (S := Unit) (fun (r : Int32) (_ : Unit) => r = 1) (fun _ _ => True) (va_A [(h 0, .inr (12, [.ref (h 1), .ref (h 2), .ref (h 3), .ref (h 4), .ref (h 5), .ref (h 6), .ref (h 8), .ref (h 12), .ref (h 11), .int 0, .int 0, .int (-1), .long 0, .long 0])), (h 1, .inr (0, [.int 0, .ref e0, .int 0])), (qo, .inl (cO, 1, .inr (.inl fo)))] sz)) (pz_X pz_N False (va_A [(h 0, .inr (12, [.ref (h 1), .ref (h 2), .ref (h 3), .ref (h 4), .ref (h 5), .ref (h 6), .ref (h 8), .ref (h 12), .ref (h 11), .int 0, .int 0, .int (-1), .long 0, .long 0])), (h 1, .inr (0, [.int 0, .ref e0, .int 0])), (qo, .inl (cO, 1, .inr (.inl fo)))] sz)) 1 6 (va_A [(h 0, .inr (12, [.ref (h 1), .ref (h 2), .ref (h 3), .ref (h 4), .ref (h 5), .ref (h 6), .ref (h 8), .ref (h 12), .ref (h 11), .int 0, .int 0, .int (-1), .long 0, .long 0])), (h 1, .inr (0, [.int 0, .ref e0, .int 0])), (qo, .inl (cO, 1, .inr (.inl fo)))] sz) := by
  refine vx_ofWH (cc := cL_order) (maxL := 7) (ret := (some .int)) (hh := [(0, 14, 17, 13)]) (by decide) rfl ?_
  intro p e s m args below meth c s₁ B hml hv
  obtain ⟨rfl, hsz, hP, hK, hD0, hZ, hV, hT⟩ := hv
  have hx := B.exec
  have hb := B.bytes
  have hr := B.returns
  have hts := atoms_spec (ws := wsL_order) B.pre
  have hown : s.vm.findClass RL = some m.cls := findClass_of_methodNamed B.named
  have hlocks := B.notSynchronized
  have htab := vx_table (x := yL_order) B (hts _ List.mem_cons_self)
  subst hsz
  have hD := hD0.self (sz := s.heap.size)
  generalize hAe : va_A [(h 0, .inr (12, [.ref (h 1), .ref (h 2), .ref (h 3), .ref (h 4), .ref (h 5), .ref (h 6), .ref (h 8), .ref (h 12), .ref (h 11), .int 0, .int 0, .int (-1), .long 0, .long 0])), (h 1, .inr (0, [.int 0, .ref e0, .int 0])), (qo, .inl (cO, 1, .inr (.inl fo)))] s.heap.size = A at hD hZ hT ⊢
  have hA : ∀ q : Nat, s.heap.size ≤ q → A q := fun q h => by rw [← hAe]; exact Or.inr h
  have hS : va_S A s.heap s.heap [] := va_S.rf
  have hP : va_P (dC, dI) vwCl [(h 0, .inr (12, [.ref (h 1), .ref (h 2), .ref (h 3), .ref (h 4), .ref (h 5), .ref (h 6), .ref (h 8), .ref (h 12), .ref (h 11), .int 0, .int 0, .int (-1), .long 0, .long 0])), (h 1, .inr (0, [.int 0, .ref e0, .int 0])), (qo, .inl (cO, 1, .inr (.inl fo)))] s.heap := hP
  have hl := lv_entry ([.ref (h 0), .int p0, .int p1, .int p2, .int p3, .ref qo]) (n := 7) (Nat.le_of_ble_eq_true rfl)
  rw [lg_entry_eq]
  generalize (lg_sl ([.ref (h 0), .int p0, .int p1, .int p2, .int p3, .ref qo]) ++ List.replicate (7 - (lg_sl ([.ref (h 0), .int p0, .int p1, .int p2, .int p3, .ref qo])).length) Slot.unset).toArray = ls at hl ⊢
  have hl : lv_has ls 7 [(0, .ref (h 0)), (1, .int p0), (2, .int p1), (3, .int p2), (4, .int p3), (5, .ref qo)] := hl
  refine lv_aload hx hb dL_order_0 (lv_at hl 5 rfl) ?_
  refine lv_iconst (v := 0) hx hb dL_order_2 (by decide) ?_
  refine lv_aload_n hx hb dL_order_3 rfl (lv_at hl 0 rfl) ?_
  refine lv_iload_n hx hb dL_order_4 rfl (lv_at hl 1 rfl) ?_
  refine lv_iload_n hx hb dL_order_5 rfl (lv_at hl 2 rfl) ?_
  refine lv_iload_n hx hb dL_order_6 rfl (lv_at hl 3 rfl) ?_
  refine lv_iload hx hb dL_order_7 (lv_at hl 4 rfl) ?_
  have hPc := hP.sub (ws' := [(h 0, .inr (12, [.ref (h 1), .ref (h 2), .ref (h 3), .ref (h 4), .ref (h 5), .ref (h 6), .ref (h 8), .ref (h 12), .ref (h 11), .int 0, .int 0, .int (-1), .long 0, .long 0])), (h 1, .inr (0, [.int 0, .ref e0, .int 0]))]) [0, 1] rfl
  have hDc := hD.sub (ws' := [(h 0, .inr (12, [.ref (h 1), .ref (h 2), .ref (h 3), .ref (h 4), .ref (h 5), .ref (h 6), .ref (h 8), .ref (h 12), .ref (h 11), .int 0, .int 0, .int (-1), .long 0, .long 0])), (h 1, .inr (0, [.int 0, .ref e0, .int 0]))]) [0, 1] (by decide) rfl
  have hKc := hK.sub (tys' := []) [] rfl
  have hFc := va_free (wc := [(h 0, .inr (12, [.ref (h 1), .ref (h 2), .ref (h 3), .ref (h 4), .ref (h 5), .ref (h 6), .ref (h 8), .ref (h 12), .ref (h 11), .int 0, .int 0, .int (-1), .long 0, .long 0])), (h 1, .inr (0, [.int 0, .ref e0, .int 0]))]) hD hS hA [0, 1] rfl
  refine vx_callv (vx_runV (As := [.int p0, .int p1, .int p2, .int p3]) (rest := [.int 0, .ref qo]) ⟨hx, hb, hml, hown, hts⟩ (c_X11_order l hlt e0 dC dI s.heap.size h p0 p1 p2 p3) (cwV 4 hts gL_order_X11_order rfl rfl rfl (by decide +kernel) ⟨Nat.le_of_ble_eq_true rfl, Nat.le_of_ble_eq_true rfl⟩) (pz_preV [.int p0, .int p1, .int p2, .int p3] hPc hDc hKc hZ hV hT hS hFc (va_recv hKc hPc (ci := 12) (q0 := 0) rfl rfl)) rfl rfl hl.1 rfl (lv_room (Nat.le_of_ble_eq_true rfl)) dL_order_9 ⟨Nat.le_of_ble_eq_true rfl, Nat.le_of_ble_eq_true rfl⟩) hS (fun q _ h => hFc q h) hFc (fun q _ h => hFc q h) (fun E ce qx_5 u_2 t H locs ht hvm hpx hE hz1 hk1 hS hce hcv hcl => ?_) (fun u_2 t H locs ht hvm hw_3 hB_4 hz1 hk1 hS => ?_)
  ·
    obtain ⟨hP, hD⟩ := pz_rest (wr := [(qo, .inl (cO, 1, .inr (.inl fo)))]) hP hD [0, 1] [2] rfl rfl (by decide) (by decide) hk1 hFc
    subst hE
    refine pq_catch hown _ htab (by decide) (by decide) (hts (.classLink RL 13 pz_N) (by decide +kernel)) (va_any rfl hV.2.2.2.1.2.2.2.1) hce hcv hcl ?_
    refine W.eq (g2 := F0 m 17 ls [.ref qx_5]) rfl ?_
    refine lv_astore (lv' := [(6, .ref qx_5), (0, .ref (h 0)), (1, .int p0), (2, .int p1), (3, .int p2), (4, .int p3), (5, .ref qo)]) hx hb dL_order_17 hl (by decide) rfl (fun ls hl => ?_)
    refine lv_iconst (v := 1) hx hb dL_order_19 (by decide) ?_
    refine W.widen (k := 1) (n := 6) (Nat.le_of_ble_eq_true rfl) (Nat.le_of_ble_eq_true rfl) ?_
    refine vx_ret ?_
    exact W.iret (v := 1) hx hb hr (fun t ht hW => ⟨⟨1, (), rfl, rfl, trivial⟩, hS.F ht⟩) hS.2.2 dL_order_20
  · exact hw_3.elim
set_option maxHeartbeats 8000000 in
set_option maxRecDepth 100000 in
/-- the wrapper of wants -/
theorem c_L_wants (l : Launch) (hlt : l.stackTraces = false) (e0 : Nat) (dC : Nat → ClassId) (dI : Nat → Nat → Nat) (sz : Nat) (h : Nat → Nat) (qo : Nat) (cO : ClassId) (fo : Nat → Int64) (p0 : Int32) : vx_Met l yL_wants wsL_wants ({ frames := 7, cells := 1, slots := 6, locals := 103 }) (va_Pc [.ref (h 0), .int p0, .ref qo] (pz_P e0 (dC, dI) [(cO, .long)] [(h 0, .inr (12, [.ref (h 1), .ref (h 2), .ref (h 3), .ref (h 4), .ref (h 5), .ref (h 6), .ref (h 8), .ref (h 12), .ref (h 11), .int 0, .int 0, .int (-1), .long 0, .long 0])), (h 5, .inr (0, [.int 0, .ref e0, .int 0])), (qo, .inl (cO, 1, .inr (.inl fo)))] sz)) (va_Qi (S := Unit) (fun (r : Int32) (_ : Unit) => r = 1) (fun _ _ => True) (va_A [(h 0, .inr (12, [.ref (h 1), .ref (h 2), .ref (h 3), .ref (h 4), .ref (h 5), .ref (h 6), .ref (h 8), .ref (h 12), .ref (h 11), .int 0, .int 0, .int (-1), .long 0, .long 0])), (h 5, .inr (0, [.int 0, .ref e0, .int 0])), (qo, .inl (cO, 1, .inr (.inl fo)))] sz)) (pz_X pz_N False (va_A [(h 0, .inr (12, [.ref (h 1), .ref (h 2), .ref (h 3), .ref (h 4), .ref (h 5), .ref (h 6), .ref (h 8), .ref (h 12), .ref (h 11), .int 0, .int 0, .int (-1), .long 0, .long 0])), (h 5, .inr (0, [.int 0, .ref e0, .int 0])), (qo, .inl (cO, 1, .inr (.inl fo)))] sz)) 1 6 (va_A [(h 0, .inr (12, [.ref (h 1), .ref (h 2), .ref (h 3), .ref (h 4), .ref (h 5), .ref (h 6), .ref (h 8), .ref (h 12), .ref (h 11), .int 0, .int 0, .int (-1), .long 0, .long 0])), (h 5, .inr (0, [.int 0, .ref e0, .int 0])), (qo, .inl (cO, 1, .inr (.inl fo)))] sz) := by
  refine vx_ofWH (cc := cL_wants) (maxL := 4) (ret := (some .int)) (hh := [(0, 9, 12, 13)]) (by decide) rfl ?_
  intro p e s m args below meth c s₁ B hml hv
  obtain ⟨rfl, hsz, hP, hK, hD0, hZ, hV, hT⟩ := hv
  have hx := B.exec
  have hb := B.bytes
  have hr := B.returns
  have hts := atoms_spec (ws := wsL_wants) B.pre
  have hown : s.vm.findClass RL = some m.cls := findClass_of_methodNamed B.named
  have hlocks := B.notSynchronized
  have htab := vx_table (x := yL_wants) B (hts _ List.mem_cons_self)
  subst hsz
  have hD := hD0.self (sz := s.heap.size)
  generalize hAe : va_A [(h 0, .inr (12, [.ref (h 1), .ref (h 2), .ref (h 3), .ref (h 4), .ref (h 5), .ref (h 6), .ref (h 8), .ref (h 12), .ref (h 11), .int 0, .int 0, .int (-1), .long 0, .long 0])), (h 5, .inr (0, [.int 0, .ref e0, .int 0])), (qo, .inl (cO, 1, .inr (.inl fo)))] s.heap.size = A at hD hZ hT ⊢
  have hA : ∀ q : Nat, s.heap.size ≤ q → A q := fun q h => by rw [← hAe]; exact Or.inr h
  have hS : va_S A s.heap s.heap [] := va_S.rf
  have hP : va_P (dC, dI) vwCl [(h 0, .inr (12, [.ref (h 1), .ref (h 2), .ref (h 3), .ref (h 4), .ref (h 5), .ref (h 6), .ref (h 8), .ref (h 12), .ref (h 11), .int 0, .int 0, .int (-1), .long 0, .long 0])), (h 5, .inr (0, [.int 0, .ref e0, .int 0])), (qo, .inl (cO, 1, .inr (.inl fo)))] s.heap := hP
  have hl := lv_entry ([.ref (h 0), .int p0, .ref qo]) (n := 4) (Nat.le_of_ble_eq_true rfl)
  rw [lg_entry_eq]
  generalize (lg_sl ([.ref (h 0), .int p0, .ref qo]) ++ List.replicate (4 - (lg_sl ([.ref (h 0), .int p0, .ref qo])).length) Slot.unset).toArray = ls at hl ⊢
  have hl : lv_has ls 4 [(0, .ref (h 0)), (1, .int p0), (2, .ref qo)] := hl
  refine lv_aload_n hx hb dL_wants_0 rfl (lv_at hl 2 rfl) ?_
  refine lv_iconst (v := 0) hx hb dL_wants_1 (by decide) ?_
  refine lv_aload_n hx hb dL_wants_2 rfl (lv_at hl 0 rfl) ?_
  refine lv_iload_n hx hb dL_wants_3 rfl (lv_at hl 1 rfl) ?_
  have hPc := hP.sub (ws' := [(h 0, .inr (12, [.ref (h 1), .ref (h 2), .ref (h 3), .ref (h 4), .ref (h 5), .ref (h 6), .ref (h 8), .ref (h 12), .ref (h 11), .int 0, .int 0, .int (-1), .long 0, .long 0])), (h 5, .inr (0, [.int 0, .ref e0, .int 0]))]) [0, 1] rfl
  have hDc := hD.sub (ws' := [(h 0, .inr (12, [.ref (h 1), .ref (h 2), .ref (h 3), .ref (h 4), .ref (h 5), .ref (h 6), .ref (h 8), .ref (h 12), .ref (h 11), .int 0, .int 0, .int (-1), .long 0, .long 0])), (h 5, .inr (0, [.int 0, .ref e0, .int 0]))]) [0, 1] (by decide) rfl
  have hKc := hK.sub (tys' := []) [] rfl
  have hFc := va_free (wc := [(h 0, .inr (12, [.ref (h 1), .ref (h 2), .ref (h 3), .ref (h 4), .ref (h 5), .ref (h 6), .ref (h 8), .ref (h 12), .ref (h 11), .int 0, .int 0, .int (-1), .long 0, .long 0])), (h 5, .inr (0, [.int 0, .ref e0, .int 0]))]) hD hS hA [0, 1] rfl
  refine vx_callv (vx_runV (As := [.int p0]) (rest := [.int 0, .ref qo]) ⟨hx, hb, hml, hown, hts⟩ (c_X11_wants l hlt e0 dC dI s.heap.size h p0) (cwV 1 hts gL_wants_X11_wants rfl rfl rfl (by decide +kernel) ⟨Nat.le_of_ble_eq_true rfl, Nat.le_of_ble_eq_true rfl⟩) (pz_preV [.int p0] hPc hDc hKc hZ hV hT hS hFc (va_recv hKc hPc (ci := 12) (q0 := 0) rfl rfl)) rfl rfl hl.1 rfl (lv_room (Nat.le_of_ble_eq_true rfl)) dL_wants_4 ⟨Nat.le_of_ble_eq_true rfl, Nat.le_of_ble_eq_true rfl⟩) hS (fun q _ h => hFc q h) hFc (fun q _ h => hFc q h) (fun E ce qx_5 u_2 t H locs ht hvm hpx hE hz1 hk1 hS hce hcv hcl => ?_) (fun u_2 t H locs ht hvm hw_3 hB_4 hz1 hk1 hS => ?_)
  ·
    obtain ⟨hP, hD⟩ := pz_rest (wr := [(qo, .inl (cO, 1, .inr (.inl fo)))]) hP hD [0, 1] [2] rfl rfl (by decide) (by decide) hk1 hFc
    subst hE
    refine pq_catch hown _ htab (by decide) (by decide) (hts (.classLink RL 13 pz_N) (by decide +kernel)) (va_any rfl hV.2.2.2.1.2.2.2.1) hce hcv hcl ?_
    refine W.eq (g2 := F0 m 12 ls [.ref qx_5]) rfl ?_
    refine lv_astore_n (lv' := [(3, .ref qx_5), (0, .ref (h 0)), (1, .int p0), (2, .ref qo)]) hx hb dL_wants_12 rfl hl (by decide) rfl (fun ls hl => ?_)
    refine lv_iconst (v := 1) hx hb dL_wants_13 (by decide) ?_
    refine W.widen (k := 1) (n := 6) (Nat.le_of_ble_eq_true rfl) (Nat.le_of_ble_eq_true rfl) ?_
    refine vx_ret ?_
    exact W.iret (v := 1) hx hb hr (fun t ht hW => ⟨⟨1, (), rfl, rfl, trivial⟩, hS.F ht⟩) hS.2.2 dL_wants_14
  · exact hw_3.elim
set_option maxHeartbeats 8000000 in
set_option maxRecDepth 100000 in
/-- the wrapper of log -/
theorem c_L_log (l : Launch) (hlt : l.stackTraces = false) (e0 : Nat) (dC : Nat → ClassId) (dI : Nat → Nat → Nat) (sz : Nat) (h : Nat → Nat) (qo : Nat) (cO : ClassId) (fo : Nat → Int64) (p0 p1 : Int32) : vx_Met l yL_log wsL_log ({ frames := 8, cells := 1, slots := 6, locals := 126 }) (va_Pc [.ref (h 0), .int p0, .int p1, .ref qo] (pz_P e0 (dC, dI) [(cO, .long)] [(h 0, .inr (12, [.ref (h 1), .ref (h 2), .ref (h 3), .ref (h 4), .ref (h 5), .ref (h 6), .ref (h 8), .ref (h 12), .ref (h 11), .int 0, .int 0, .int (-1), .long 0, .long 0])), (h 2, .inr (0, [.int 0, .ref e0, .int 0])), (qo, .inl (cO, 1, .inr (.inl fo)))] sz)) (va_Qi (S := Unit) (fun (r : Int32) (_ : Unit) => r = 1) (fun _ _ => True) (va_A [(h 0, .inr (12, [.ref (h 1), .ref (h 2), .ref (h 3), .ref (h 4), .ref (h 5), .ref (h 6), .ref (h 8), .ref (h 12), .ref (h 11), .int 0, .int 0, .int (-1), .long 0, .long 0])), (h 2, .inr (0, [.int 0, .ref e0, .int 0])), (qo, .inl (cO, 1, .inr (.inl fo)))] sz)) (pz_X pz_N False (va_A [(h 0, .inr (12, [.ref (h 1), .ref (h 2), .ref (h 3), .ref (h 4), .ref (h 5), .ref (h 6), .ref (h 8), .ref (h 12), .ref (h 11), .int 0, .int 0, .int (-1), .long 0, .long 0])), (h 2, .inr (0, [.int 0, .ref e0, .int 0])), (qo, .inl (cO, 1, .inr (.inl fo)))] sz)) 1 6 (va_A [(h 0, .inr (12, [.ref (h 1), .ref (h 2), .ref (h 3), .ref (h 4), .ref (h 5), .ref (h 6), .ref (h 8), .ref (h 12), .ref (h 11), .int 0, .int 0, .int (-1), .long 0, .long 0])), (h 2, .inr (0, [.int 0, .ref e0, .int 0])), (qo, .inl (cO, 1, .inr (.inl fo)))] sz) := by
  refine vx_ofWH (cc := cL_log) (maxL := 5) (ret := (some .int)) (hh := [(0, 10, 13, 13)]) (by decide) rfl ?_
  intro p e s m args below meth c s₁ B hml hv
  obtain ⟨rfl, hsz, hP, hK, hD0, hZ, hV, hT⟩ := hv
  have hx := B.exec
  have hb := B.bytes
  have hr := B.returns
  have hts := atoms_spec (ws := wsL_log) B.pre
  have hown : s.vm.findClass RL = some m.cls := findClass_of_methodNamed B.named
  have hlocks := B.notSynchronized
  have htab := vx_table (x := yL_log) B (hts _ List.mem_cons_self)
  subst hsz
  have hD := hD0.self (sz := s.heap.size)
  generalize hAe : va_A [(h 0, .inr (12, [.ref (h 1), .ref (h 2), .ref (h 3), .ref (h 4), .ref (h 5), .ref (h 6), .ref (h 8), .ref (h 12), .ref (h 11), .int 0, .int 0, .int (-1), .long 0, .long 0])), (h 2, .inr (0, [.int 0, .ref e0, .int 0])), (qo, .inl (cO, 1, .inr (.inl fo)))] s.heap.size = A at hD hZ hT ⊢
  have hA : ∀ q : Nat, s.heap.size ≤ q → A q := fun q h => by rw [← hAe]; exact Or.inr h
  have hS : va_S A s.heap s.heap [] := va_S.rf
  have hP : va_P (dC, dI) vwCl [(h 0, .inr (12, [.ref (h 1), .ref (h 2), .ref (h 3), .ref (h 4), .ref (h 5), .ref (h 6), .ref (h 8), .ref (h 12), .ref (h 11), .int 0, .int 0, .int (-1), .long 0, .long 0])), (h 2, .inr (0, [.int 0, .ref e0, .int 0])), (qo, .inl (cO, 1, .inr (.inl fo)))] s.heap := hP
  have hl := lv_entry ([.ref (h 0), .int p0, .int p1, .ref qo]) (n := 5) (Nat.le_of_ble_eq_true rfl)
  rw [lg_entry_eq]
  generalize (lg_sl ([.ref (h 0), .int p0, .int p1, .ref qo]) ++ List.replicate (5 - (lg_sl ([.ref (h 0), .int p0, .int p1, .ref qo])).length) Slot.unset).toArray = ls at hl ⊢
  have hl : lv_has ls 5 [(0, .ref (h 0)), (1, .int p0), (2, .int p1), (3, .ref qo)] := hl
  refine lv_aload_n hx hb dL_log_0 rfl (lv_at hl 3 rfl) ?_
  refine lv_iconst (v := 0) hx hb dL_log_1 (by decide) ?_
  refine lv_aload_n hx hb dL_log_2 rfl (lv_at hl 0 rfl) ?_
  refine lv_iload_n hx hb dL_log_3 rfl (lv_at hl 1 rfl) ?_
  refine lv_iload_n hx hb dL_log_4 rfl (lv_at hl 2 rfl) ?_
  have hPc := hP.sub (ws' := [(h 0, .inr (12, [.ref (h 1), .ref (h 2), .ref (h 3), .ref (h 4), .ref (h 5), .ref (h 6), .ref (h 8), .ref (h 12), .ref (h 11), .int 0, .int 0, .int (-1), .long 0, .long 0])), (h 2, .inr (0, [.int 0, .ref e0, .int 0]))]) [0, 1] rfl
  have hDc := hD.sub (ws' := [(h 0, .inr (12, [.ref (h 1), .ref (h 2), .ref (h 3), .ref (h 4), .ref (h 5), .ref (h 6), .ref (h 8), .ref (h 12), .ref (h 11), .int 0, .int 0, .int (-1), .long 0, .long 0])), (h 2, .inr (0, [.int 0, .ref e0, .int 0]))]) [0, 1] (by decide) rfl
  have hKc := hK.sub (tys' := []) [] rfl
  have hFc := va_free (wc := [(h 0, .inr (12, [.ref (h 1), .ref (h 2), .ref (h 3), .ref (h 4), .ref (h 5), .ref (h 6), .ref (h 8), .ref (h 12), .ref (h 11), .int 0, .int 0, .int (-1), .long 0, .long 0])), (h 2, .inr (0, [.int 0, .ref e0, .int 0]))]) hD hS hA [0, 1] rfl
  refine vx_callv (vx_runV (As := [.int p0, .int p1]) (rest := [.int 0, .ref qo]) ⟨hx, hb, hml, hown, hts⟩ (c_X11_log l hlt e0 dC dI s.heap.size h p0 p1) (cwV 2 hts gL_log_X11_log rfl rfl rfl (by decide +kernel) ⟨Nat.le_of_ble_eq_true rfl, Nat.le_of_ble_eq_true rfl⟩) (pz_preV [.int p0, .int p1] hPc hDc hKc hZ hV hT hS hFc (va_recv hKc hPc (ci := 12) (q0 := 0) rfl rfl)) rfl rfl hl.1 rfl (lv_room (Nat.le_of_ble_eq_true rfl)) dL_log_5 ⟨Nat.le_of_ble_eq_true rfl, Nat.le_of_ble_eq_true rfl⟩) hS (fun q _ h => hFc q h) hFc (fun q _ h => hFc q h) (fun E ce qx_5 u_2 t H locs ht hvm hpx hE hz1 hk1 hS hce hcv hcl => ?_) (fun u_2 t H locs ht hvm hw_3 hB_4 hz1 hk1 hS => ?_)
  ·
    obtain ⟨hP, hD⟩ := pz_rest (wr := [(qo, .inl (cO, 1, .inr (.inl fo)))]) hP hD [0, 1] [2] rfl rfl (by decide) (by decide) hk1 hFc
    subst hE
    refine pq_catch hown _ htab (by decide) (by decide) (hts (.classLink RL 13 pz_N) (by decide +kernel)) (va_any rfl hV.2.2.2.1.2.2.2.1) hce hcv hcl ?_
    refine W.eq (g2 := F0 m 13 ls [.ref qx_5]) rfl ?_
    refine lv_astore (lv' := [(4, .ref qx_5), (0, .ref (h 0)), (1, .int p0), (2, .int p1), (3, .ref qo)]) hx hb dL_log_13 hl (by decide) rfl (fun ls hl => ?_)
    refine lv_iconst (v := 1) hx hb dL_log_15 (by decide) ?_
    refine W.widen (k := 1) (n := 6) (Nat.le_of_ble_eq_true rfl) (Nat.le_of_ble_eq_true rfl) ?_
    refine vx_ret ?_
    exact W.iret (v := 1) hx hb hr (fun t ht hW => ⟨⟨1, (), rfl, rfl, trivial⟩, hS.F ht⟩) hS.2.2 dL_log_16
  · exact hw_3.elim
set_option maxHeartbeats 8000000 in
set_option maxRecDepth 100000 in
/-- the wrapper of cell -/
theorem c_L_cell (l : Launch) (hlt : l.stackTraces = false) (e0 : Nat) (dC : Nat → ClassId) (dI : Nat → Nat → Nat) (sz : Nat) (h : Nat → Nat) (qo : Nat) (cO : ClassId) (fo : Nat → Int64) (p0 p1 p2 : Int32) : vx_Met l yL_cell wsL_cell ({ frames := 8, cells := 1, slots := 6, locals := 128 }) (va_Pc [.ref (h 0), .int p0, .int p1, .int p2, .ref qo] (pz_P e0 (dC, dI) [(cO, .long)] [(h 0, .inr (12, [.ref (h 1), .ref (h 2), .ref (h 3), .ref (h 4), .ref (h 5), .ref (h 6), .ref (h 8), .ref (h 12), .ref (h 11), .int 0, .int 0, .int (-1), .long 0, .long 0])), (h 1, .inr (0, [.int 0, .ref e0, .int 0])), (qo, .inl (cO, 1, .inr (.inl fo)))] sz)) (va_Qi (S := Unit) (fun (r : Int32) (_ : Unit) => r = 1) (fun _ _ => True) (va_A [(h 0, .inr (12, [.ref (h 1), .ref (h 2), .ref (h 3), .ref (h 4), .ref (h 5), .ref (h 6), .ref (h 8), .ref (h 12), .ref (h 11), .int 0, .int 0, .int (-1), .long 0, .long 0])), (h 1, .inr (0, [.int 0, .ref e0, .int 0])), (qo, .inl (cO, 1, .inr (.inl fo)))] sz)) (pz_X pz_N False (va_A [(h 0, .inr (12, [.ref (h 1), .ref (h 2), .ref (h 3), .ref (h 4), .ref (h 5), .ref (h 6), .ref (h 8), .ref (h 12), .ref (h 11), .int 0, .int 0, .int (-1), .long 0, .long 0])), (h 1, .inr (0, [.int 0, .ref e0, .int 0])), (qo, .inl (cO, 1, .inr (.inl fo)))] sz)) 1 6 (va_A [(h 0, .inr (12, [.ref (h 1), .ref (h 2), .ref (h 3), .ref (h 4), .ref (h 5), .ref (h 6), .ref (h 8), .ref (h 12), .ref (h 11), .int 0, .int 0, .int (-1), .long 0, .long 0])), (h 1, .inr (0, [.int 0, .ref e0, .int 0])), (qo, .inl (cO, 1, .inr (.inl fo)))] sz) := by
  refine vx_ofWH (cc := cL_cell) (maxL := 6) (ret := (some .int)) (hh := [(0, 12, 15, 13)]) (by decide) rfl ?_
  intro p e s m args below meth c s₁ B hml hv
  obtain ⟨rfl, hsz, hP, hK, hD0, hZ, hV, hT⟩ := hv
  have hx := B.exec
  have hb := B.bytes
  have hr := B.returns
  have hts := atoms_spec (ws := wsL_cell) B.pre
  have hown : s.vm.findClass RL = some m.cls := findClass_of_methodNamed B.named
  have hlocks := B.notSynchronized
  have htab := vx_table (x := yL_cell) B (hts _ List.mem_cons_self)
  subst hsz
  have hD := hD0.self (sz := s.heap.size)
  generalize hAe : va_A [(h 0, .inr (12, [.ref (h 1), .ref (h 2), .ref (h 3), .ref (h 4), .ref (h 5), .ref (h 6), .ref (h 8), .ref (h 12), .ref (h 11), .int 0, .int 0, .int (-1), .long 0, .long 0])), (h 1, .inr (0, [.int 0, .ref e0, .int 0])), (qo, .inl (cO, 1, .inr (.inl fo)))] s.heap.size = A at hD hZ hT ⊢
  have hA : ∀ q : Nat, s.heap.size ≤ q → A q := fun q h => by rw [← hAe]; exact Or.inr h
  have hS : va_S A s.heap s.heap [] := va_S.rf
  have hP : va_P (dC, dI) vwCl [(h 0, .inr (12, [.ref (h 1), .ref (h 2), .ref (h 3), .ref (h 4), .ref (h 5), .ref (h 6), .ref (h 8), .ref (h 12), .ref (h 11), .int 0, .int 0, .int (-1), .long 0, .long 0])), (h 1, .inr (0, [.int 0, .ref e0, .int 0])), (qo, .inl (cO, 1, .inr (.inl fo)))] s.heap := hP
  have hl := lv_entry ([.ref (h 0), .int p0, .int p1, .int p2, .ref qo]) (n := 6) (Nat.le_of_ble_eq_true rfl)
  rw [lg_entry_eq]
  generalize (lg_sl ([.ref (h 0), .int p0, .int p1, .int p2, .ref qo]) ++ List.replicate (6 - (lg_sl ([.ref (h 0), .int p0, .int p1, .int p2, .ref qo])).length) Slot.unset).toArray = ls at hl ⊢
  have hl : lv_has ls 6 [(0, .ref (h 0)), (1, .int p0), (2, .int p1), (3, .int p2), (4, .ref qo)] := hl
  refine lv_aload hx hb dL_cell_0 (lv_at hl 4 rfl) ?_
  refine lv_iconst (v := 0) hx hb dL_cell_2 (by decide) ?_
  refine lv_aload_n hx hb dL_cell_3 rfl (lv_at hl 0 rfl) ?_
  refine lv_iload_n hx hb dL_cell_4 rfl (lv_at hl 1 rfl) ?_
  refine lv_iload_n hx hb dL_cell_5 rfl (lv_at hl 2 rfl) ?_
  refine lv_iload_n hx hb dL_cell_6 rfl (lv_at hl 3 rfl) ?_
  have hPc := hP.sub (ws' := [(h 0, .inr (12, [.ref (h 1), .ref (h 2), .ref (h 3), .ref (h 4), .ref (h 5), .ref (h 6), .ref (h 8), .ref (h 12), .ref (h 11), .int 0, .int 0, .int (-1), .long 0, .long 0])), (h 1, .inr (0, [.int 0, .ref e0, .int 0]))]) [0, 1] rfl
  have hDc := hD.sub (ws' := [(h 0, .inr (12, [.ref (h 1), .ref (h 2), .ref (h 3), .ref (h 4), .ref (h 5), .ref (h 6), .ref (h 8), .ref (h 12), .ref (h 11), .int 0, .int 0, .int (-1), .long 0, .long 0])), (h 1, .inr (0, [.int 0, .ref e0, .int 0]))]) [0, 1] (by decide) rfl
  have hKc := hK.sub (tys' := []) [] rfl
  have hFc := va_free (wc := [(h 0, .inr (12, [.ref (h 1), .ref (h 2), .ref (h 3), .ref (h 4), .ref (h 5), .ref (h 6), .ref (h 8), .ref (h 12), .ref (h 11), .int 0, .int 0, .int (-1), .long 0, .long 0])), (h 1, .inr (0, [.int 0, .ref e0, .int 0]))]) hD hS hA [0, 1] rfl
  refine vx_callv (vx_runV (As := [.int p0, .int p1, .int p2]) (rest := [.int 0, .ref qo]) ⟨hx, hb, hml, hown, hts⟩ (c_X11_cell l hlt e0 dC dI s.heap.size h p0 p1 p2) (cwV 3 hts gL_cell_X11_cell rfl rfl rfl (by decide +kernel) ⟨Nat.le_of_ble_eq_true rfl, Nat.le_of_ble_eq_true rfl⟩) (pz_preV [.int p0, .int p1, .int p2] hPc hDc hKc hZ hV hT hS hFc (va_recv hKc hPc (ci := 12) (q0 := 0) rfl rfl)) rfl rfl hl.1 rfl (lv_room (Nat.le_of_ble_eq_true rfl)) dL_cell_7 ⟨Nat.le_of_ble_eq_true rfl, Nat.le_of_ble_eq_true rfl⟩) hS (fun q _ h => hFc q h) hFc (fun q _ h => hFc q h) (fun E ce qx_5 u_2 t H locs ht hvm hpx hE hz1 hk1 hS hce hcv hcl => ?_) (fun u_2 t H locs ht hvm hw_3 hB_4 hz1 hk1 hS => ?_)
  ·
    obtain ⟨hP, hD⟩ := pz_rest (wr := [(qo, .inl (cO, 1, .inr (.inl fo)))]) hP hD [0, 1] [2] rfl rfl (by decide) (by decide) hk1 hFc
    subst hE
    refine pq_catch hown _ htab (by decide) (by decide) (hts (.classLink RL 13 pz_N) (by decide +kernel)) (va_any rfl hV.2.2.2.1.2.2.2.1) hce hcv hcl ?_
    refine W.eq (g2 := F0 m 15 ls [.ref qx_5]) rfl ?_
    refine lv_astore (lv' := [(5, .ref qx_5), (0, .ref (h 0)), (1, .int p0), (2, .int p1), (3, .int p2), (4, .ref qo)]) hx hb dL_cell_15 hl (by decide) rfl (fun ls hl => ?_)
    refine lv_iconst (v := 1) hx hb dL_cell_17 (by decide) ?_
    refine W.widen (k := 1) (n := 6) (Nat.le_of_ble_eq_true rfl) (Nat.le_of_ble_eq_true rfl) ?_
    refine vx_ret ?_
    exact W.iret (v := 1) hx hb hr (fun t ht hW => ⟨⟨1, (), rfl, rfl, trivial⟩, hS.F ht⟩) hS.2.2 dL_cell_18
  · exact hw_3.elim
set_option maxHeartbeats 8000000 in
set_option maxRecDepth 100000 in
/-- the wrapper of inCell -/
theorem c_L_inCell (l : Launch) (hlt : l.stackTraces = false) (e0 : Nat) (dC : Nat → ClassId) (dI : Nat → Nat → Nat) (sz : Nat) (h : Nat → Nat) (qo : Nat) (cO : ClassId) (fo : Nat → Int64) (p0 p1 p2 : Int32) : vx_Met l yL_inCell wsL_inCell ({ frames := 8, cells := 1, slots := 6, locals := 127 }) (va_Pc [.ref (h 0), .int p0, .int p1, .int p2, .ref qo] (pz_P e0 (dC, dI) [(cO, .long)] [(h 0, .inr (12, [.ref (h 1), .ref (h 2), .ref (h 3), .ref (h 4), .ref (h 5), .ref (h 6), .ref (h 8), .ref (h 12), .ref (h 11), .int 0, .int 0, .int (-1), .long 0, .long 0])), (h 1, .inr (0, [.int 0, .ref e0, .int 0])), (qo, .inl (cO, 1, .inr (.inl fo)))] sz)) (va_Qi (S := Unit) (fun (r : Int32) (_ : Unit) => r = 1) (fun _ _ => True) (va_A [(h 0, .inr (12, [.ref (h 1), .ref (h 2), .ref (h 3), .ref (h 4), .ref (h 5), .ref (h 6), .ref (h 8), .ref (h 12), .ref (h 11), .int 0, .int 0, .int (-1), .long 0, .long 0])), (h 1, .inr (0, [.int 0, .ref e0, .int 0])), (qo, .inl (cO, 1, .inr (.inl fo)))] sz)) (pz_X pz_N False (va_A [(h 0, .inr (12, [.ref (h 1), .ref (h 2), .ref (h 3), .ref (h 4), .ref (h 5), .ref (h 6), .ref (h 8), .ref (h 12), .ref (h 11), .int 0, .int 0, .int (-1), .long 0, .long 0])), (h 1, .inr (0, [.int 0, .ref e0, .int 0])), (qo, .inl (cO, 1, .inr (.inl fo)))] sz)) 1 6 (va_A [(h 0, .inr (12, [.ref (h 1), .ref (h 2), .ref (h 3), .ref (h 4), .ref (h 5), .ref (h 6), .ref (h 8), .ref (h 12), .ref (h 11), .int 0, .int 0, .int (-1), .long 0, .long 0])), (h 1, .inr (0, [.int 0, .ref e0, .int 0])), (qo, .inl (cO, 1, .inr (.inl fo)))] sz) := by
  refine vx_ofWH (cc := cL_inCell) (maxL := 6) (ret := (some .int)) (hh := [(0, 12, 15, 13)]) (by decide) rfl ?_
  intro p e s m args below meth c s₁ B hml hv
  obtain ⟨rfl, hsz, hP, hK, hD0, hZ, hV, hT⟩ := hv
  have hx := B.exec
  have hb := B.bytes
  have hr := B.returns
  have hts := atoms_spec (ws := wsL_inCell) B.pre
  have hown : s.vm.findClass RL = some m.cls := findClass_of_methodNamed B.named
  have hlocks := B.notSynchronized
  have htab := vx_table (x := yL_inCell) B (hts _ List.mem_cons_self)
  subst hsz
  have hD := hD0.self (sz := s.heap.size)
  generalize hAe : va_A [(h 0, .inr (12, [.ref (h 1), .ref (h 2), .ref (h 3), .ref (h 4), .ref (h 5), .ref (h 6), .ref (h 8), .ref (h 12), .ref (h 11), .int 0, .int 0, .int (-1), .long 0, .long 0])), (h 1, .inr (0, [.int 0, .ref e0, .int 0])), (qo, .inl (cO, 1, .inr (.inl fo)))] s.heap.size = A at hD hZ hT ⊢
  have hA : ∀ q : Nat, s.heap.size ≤ q → A q := fun q h => by rw [← hAe]; exact Or.inr h
  have hS : va_S A s.heap s.heap [] := va_S.rf
  have hP : va_P (dC, dI) vwCl [(h 0, .inr (12, [.ref (h 1), .ref (h 2), .ref (h 3), .ref (h 4), .ref (h 5), .ref (h 6), .ref (h 8), .ref (h 12), .ref (h 11), .int 0, .int 0, .int (-1), .long 0, .long 0])), (h 1, .inr (0, [.int 0, .ref e0, .int 0])), (qo, .inl (cO, 1, .inr (.inl fo)))] s.heap := hP
  have hl := lv_entry ([.ref (h 0), .int p0, .int p1, .int p2, .ref qo]) (n := 6) (Nat.le_of_ble_eq_true rfl)
  rw [lg_entry_eq]
  generalize (lg_sl ([.ref (h 0), .int p0, .int p1, .int p2, .ref qo]) ++ List.replicate (6 - (lg_sl ([.ref (h 0), .int p0, .int p1, .int p2, .ref qo])).length) Slot.unset).toArray = ls at hl ⊢
  have hl : lv_has ls 6 [(0, .ref (h 0)), (1, .int p0), (2, .int p1), (3, .int p2), (4, .ref qo)] := hl
  refine lv_aload hx hb dL_inCell_0 (lv_at hl 4 rfl) ?_
  refine lv_iconst (v := 0) hx hb dL_inCell_2 (by decide) ?_
  refine lv_aload_n hx hb dL_inCell_3 rfl (lv_at hl 0 rfl) ?_
  refine lv_iload_n hx hb dL_inCell_4 rfl (lv_at hl 1 rfl) ?_
  refine lv_iload_n hx hb dL_inCell_5 rfl (lv_at hl 2 rfl) ?_
  refine lv_iload_n hx hb dL_inCell_6 rfl (lv_at hl 3 rfl) ?_
  have hPc := hP.sub (ws' := [(h 0, .inr (12, [.ref (h 1), .ref (h 2), .ref (h 3), .ref (h 4), .ref (h 5), .ref (h 6), .ref (h 8), .ref (h 12), .ref (h 11), .int 0, .int 0, .int (-1), .long 0, .long 0])), (h 1, .inr (0, [.int 0, .ref e0, .int 0]))]) [0, 1] rfl
  have hDc := hD.sub (ws' := [(h 0, .inr (12, [.ref (h 1), .ref (h 2), .ref (h 3), .ref (h 4), .ref (h 5), .ref (h 6), .ref (h 8), .ref (h 12), .ref (h 11), .int 0, .int 0, .int (-1), .long 0, .long 0])), (h 1, .inr (0, [.int 0, .ref e0, .int 0]))]) [0, 1] (by decide) rfl
  have hKc := hK.sub (tys' := []) [] rfl
  have hFc := va_free (wc := [(h 0, .inr (12, [.ref (h 1), .ref (h 2), .ref (h 3), .ref (h 4), .ref (h 5), .ref (h 6), .ref (h 8), .ref (h 12), .ref (h 11), .int 0, .int 0, .int (-1), .long 0, .long 0])), (h 1, .inr (0, [.int 0, .ref e0, .int 0]))]) hD hS hA [0, 1] rfl
  refine vx_callv (vx_runV (As := [.int p0, .int p1, .int p2]) (rest := [.int 0, .ref qo]) ⟨hx, hb, hml, hown, hts⟩ (c_X11_inCell l hlt e0 dC dI s.heap.size h p0 p1 p2) (cwV 3 hts gL_inCell_X11_inCell rfl rfl rfl (by decide +kernel) ⟨Nat.le_of_ble_eq_true rfl, Nat.le_of_ble_eq_true rfl⟩) (pz_preV [.int p0, .int p1, .int p2] hPc hDc hKc hZ hV hT hS hFc (va_recv hKc hPc (ci := 12) (q0 := 0) rfl rfl)) rfl rfl hl.1 rfl (lv_room (Nat.le_of_ble_eq_true rfl)) dL_inCell_7 ⟨Nat.le_of_ble_eq_true rfl, Nat.le_of_ble_eq_true rfl⟩) hS (fun q _ h => hFc q h) hFc (fun q _ h => hFc q h) (fun E ce qx_5 u_2 t H locs ht hvm hpx hE hz1 hk1 hS hce hcv hcl => ?_) (fun u_2 t H locs ht hvm hw_3 hB_4 hz1 hk1 hS => ?_)
  ·
    obtain ⟨hP, hD⟩ := pz_rest (wr := [(qo, .inl (cO, 1, .inr (.inl fo)))]) hP hD [0, 1] [2] rfl rfl (by decide) (by decide) hk1 hFc
    subst hE
    refine pq_catch hown _ htab (by decide) (by decide) (hts (.classLink RL 13 pz_N) (by decide +kernel)) (va_any rfl hV.2.2.2.1.2.2.2.1) hce hcv hcl ?_
    refine W.eq (g2 := F0 m 15 ls [.ref qx_5]) rfl ?_
    refine lv_astore (lv' := [(5, .ref qx_5), (0, .ref (h 0)), (1, .int p0), (2, .int p1), (3, .int p2), (4, .ref qo)]) hx hb dL_inCell_15 hl (by decide) rfl (fun ls hl => ?_)
    refine lv_iconst (v := 1) hx hb dL_inCell_17 (by decide) ?_
    refine W.widen (k := 1) (n := 6) (Nat.le_of_ble_eq_true rfl) (Nat.le_of_ble_eq_true rfl) ?_
    refine vx_ret ?_
    exact W.iret (v := 1) hx hb hr (fun t ht hW => ⟨⟨1, (), rfl, rfl, trivial⟩, hS.F ht⟩) hS.2.2 dL_inCell_18
  · exact hw_3.elim
set_option maxHeartbeats 8000000 in
set_option maxRecDepth 100000 in
/-- the wrapper of heap -/
theorem c_L_heap (l : Launch) (hlt : l.stackTraces = false) (e0 : Nat) (dC : Nat → ClassId) (dI : Nat → Nat → Nat) (sz : Nat) (h : Nat → Nat) (qo : Nat) (cO : ClassId) (fo : Nat → Int64) (p0 p1 : Int32) : vx_Met l yL_heap wsL_heap ({ frames := 8, cells := 1, slots := 6, locals := 126 }) (va_Pc [.ref (h 0), .int p0, .int p1, .ref qo] (pz_P e0 (dC, dI) [(cO, .long)] [(h 0, .inr (12, [.ref (h 1), .ref (h 2), .ref (h 3), .ref (h 4), .ref (h 5), .ref (h 6), .ref (h 8), .ref (h 12), .ref (h 11), .int 0, .int 0, .int (-1), .long 0, .long 0])), (h 1, .inr (0, [.int 0, .ref e0, .int 0])), (qo, .inl (cO, 1, .inr (.inl fo)))] sz)) (va_Qi (S := Unit) (fun (r : Int32) (_ : Unit) => r = 1) (fun _ _ => True) (va_A [(h 0, .inr (12, [.ref (h 1), .ref (h 2), .ref (h 3), .ref (h 4), .ref (h 5), .ref (h 6), .ref (h 8), .ref (h 12), .ref (h 11), .int 0, .int 0, .int (-1), .long 0, .long 0])), (h 1, .inr (0, [.int 0, .ref e0, .int 0])), (qo, .inl (cO, 1, .inr (.inl fo)))] sz)) (pz_X pz_N False (va_A [(h 0, .inr (12, [.ref (h 1), .ref (h 2), .ref (h 3), .ref (h 4), .ref (h 5), .ref (h 6), .ref (h 8), .ref (h 12), .ref (h 11), .int 0, .int 0, .int (-1), .long 0, .long 0])), (h 1, .inr (0, [.int 0, .ref e0, .int 0])), (qo, .inl (cO, 1, .inr (.inl fo)))] sz)) 1 6 (va_A [(h 0, .inr (12, [.ref (h 1), .ref (h 2), .ref (h 3), .ref (h 4), .ref (h 5), .ref (h 6), .ref (h 8), .ref (h 12), .ref (h 11), .int 0, .int 0, .int (-1), .long 0, .long 0])), (h 1, .inr (0, [.int 0, .ref e0, .int 0])), (qo, .inl (cO, 1, .inr (.inl fo)))] sz) := by
  refine vx_ofWH (cc := cL_heap) (maxL := 5) (ret := (some .int)) (hh := [(0, 10, 13, 13)]) (by decide) rfl ?_
  intro p e s m args below meth c s₁ B hml hv
  obtain ⟨rfl, hsz, hP, hK, hD0, hZ, hV, hT⟩ := hv
  have hx := B.exec
  have hb := B.bytes
  have hr := B.returns
  have hts := atoms_spec (ws := wsL_heap) B.pre
  have hown : s.vm.findClass RL = some m.cls := findClass_of_methodNamed B.named
  have hlocks := B.notSynchronized
  have htab := vx_table (x := yL_heap) B (hts _ List.mem_cons_self)
  subst hsz
  have hD := hD0.self (sz := s.heap.size)
  generalize hAe : va_A [(h 0, .inr (12, [.ref (h 1), .ref (h 2), .ref (h 3), .ref (h 4), .ref (h 5), .ref (h 6), .ref (h 8), .ref (h 12), .ref (h 11), .int 0, .int 0, .int (-1), .long 0, .long 0])), (h 1, .inr (0, [.int 0, .ref e0, .int 0])), (qo, .inl (cO, 1, .inr (.inl fo)))] s.heap.size = A at hD hZ hT ⊢
  have hA : ∀ q : Nat, s.heap.size ≤ q → A q := fun q h => by rw [← hAe]; exact Or.inr h
  have hS : va_S A s.heap s.heap [] := va_S.rf
  have hP : va_P (dC, dI) vwCl [(h 0, .inr (12, [.ref (h 1), .ref (h 2), .ref (h 3), .ref (h 4), .ref (h 5), .ref (h 6), .ref (h 8), .ref (h 12), .ref (h 11), .int 0, .int 0, .int (-1), .long 0, .long 0])), (h 1, .inr (0, [.int 0, .ref e0, .int 0])), (qo, .inl (cO, 1, .inr (.inl fo)))] s.heap := hP
  have hl := lv_entry ([.ref (h 0), .int p0, .int p1, .ref qo]) (n := 5) (Nat.le_of_ble_eq_true rfl)
  rw [lg_entry_eq]
  generalize (lg_sl ([.ref (h 0), .int p0, .int p1, .ref qo]) ++ List.replicate (5 - (lg_sl ([.ref (h 0), .int p0, .int p1, .ref qo])).length) Slot.unset).toArray = ls at hl ⊢
  have hl : lv_has ls 5 [(0, .ref (h 0)), (1, .int p0), (2, .int p1), (3, .ref qo)] := hl
  refine lv_aload_n hx hb dL_heap_0 rfl (lv_at hl 3 rfl) ?_
  refine lv_iconst (v := 0) hx hb dL_heap_1 (by decide) ?_
  refine lv_aload_n hx hb dL_heap_2 rfl (lv_at hl 0 rfl) ?_
  refine lv_iload_n hx hb dL_heap_3 rfl (lv_at hl 1 rfl) ?_
  refine lv_iload_n hx hb dL_heap_4 rfl (lv_at hl 2 rfl) ?_
  have hPc := hP.sub (ws' := [(h 0, .inr (12, [.ref (h 1), .ref (h 2), .ref (h 3), .ref (h 4), .ref (h 5), .ref (h 6), .ref (h 8), .ref (h 12), .ref (h 11), .int 0, .int 0, .int (-1), .long 0, .long 0])), (h 1, .inr (0, [.int 0, .ref e0, .int 0]))]) [0, 1] rfl
  have hDc := hD.sub (ws' := [(h 0, .inr (12, [.ref (h 1), .ref (h 2), .ref (h 3), .ref (h 4), .ref (h 5), .ref (h 6), .ref (h 8), .ref (h 12), .ref (h 11), .int 0, .int 0, .int (-1), .long 0, .long 0])), (h 1, .inr (0, [.int 0, .ref e0, .int 0]))]) [0, 1] (by decide) rfl
  have hKc := hK.sub (tys' := []) [] rfl
  have hFc := va_free (wc := [(h 0, .inr (12, [.ref (h 1), .ref (h 2), .ref (h 3), .ref (h 4), .ref (h 5), .ref (h 6), .ref (h 8), .ref (h 12), .ref (h 11), .int 0, .int 0, .int (-1), .long 0, .long 0])), (h 1, .inr (0, [.int 0, .ref e0, .int 0]))]) hD hS hA [0, 1] rfl
  refine vx_callv (vx_runV (As := [.int p0, .int p1]) (rest := [.int 0, .ref qo]) ⟨hx, hb, hml, hown, hts⟩ (c_X11_heap l hlt e0 dC dI s.heap.size h p0 p1) (cwV 2 hts gL_heap_X11_heap rfl rfl rfl (by decide +kernel) ⟨Nat.le_of_ble_eq_true rfl, Nat.le_of_ble_eq_true rfl⟩) (pz_preV [.int p0, .int p1] hPc hDc hKc hZ hV hT hS hFc (va_recv hKc hPc (ci := 12) (q0 := 0) rfl rfl)) rfl rfl hl.1 rfl (lv_room (Nat.le_of_ble_eq_true rfl)) dL_heap_5 ⟨Nat.le_of_ble_eq_true rfl, Nat.le_of_ble_eq_true rfl⟩) hS (fun q _ h => hFc q h) hFc (fun q _ h => hFc q h) (fun E ce qx_5 u_2 t H locs ht hvm hpx hE hz1 hk1 hS hce hcv hcl => ?_) (fun u_2 t H locs ht hvm hw_3 hB_4 hz1 hk1 hS => ?_)
  ·
    obtain ⟨hP, hD⟩ := pz_rest (wr := [(qo, .inl (cO, 1, .inr (.inl fo)))]) hP hD [0, 1] [2] rfl rfl (by decide) (by decide) hk1 hFc
    subst hE
    refine pq_catch hown _ htab (by decide) (by decide) (hts (.classLink RL 13 pz_N) (by decide +kernel)) (va_any rfl hV.2.2.2.1.2.2.2.1) hce hcv hcl ?_
    refine W.eq (g2 := F0 m 13 ls [.ref qx_5]) rfl ?_
    refine lv_astore (lv' := [(4, .ref qx_5), (0, .ref (h 0)), (1, .int p0), (2, .int p1), (3, .ref qo)]) hx hb dL_heap_13 hl (by decide) rfl (fun ls hl => ?_)
    refine lv_iconst (v := 1) hx hb dL_heap_15 (by decide) ?_
    refine W.widen (k := 1) (n := 6) (Nat.le_of_ble_eq_true rfl) (Nat.le_of_ble_eq_true rfl) ?_
    refine vx_ret ?_
    exact W.iret (v := 1) hx hb hr (fun t ht hW => ⟨⟨1, (), rfl, rfl, trivial⟩, hS.F ht⟩) hS.2.2 dL_heap_16
  · exact hw_3.elim
set_option maxHeartbeats 8000000 in
set_option maxRecDepth 100000 in
/-- the wrapper of water -/
theorem c_L_water (l : Launch) (hlt : l.stackTraces = false) (e0 : Nat) (dC : Nat → ClassId) (dI : Nat → Nat → Nat) (sz : Nat) (h : Nat → Nat) (qo : Nat) (cO : ClassId) (fo : Nat → Int64) (p0 p1 : Int32) : vx_Met l yL_water wsL_water ({ frames := 8, cells := 1, slots := 6, locals := 126 }) (va_Pc [.ref (h 0), .int p0, .int p1, .ref qo] (pz_P e0 (dC, dI) [(cO, .long)] [(h 0, .inr (12, [.ref (h 1), .ref (h 2), .ref (h 3), .ref (h 4), .ref (h 5), .ref (h 6), .ref (h 8), .ref (h 12), .ref (h 11), .int 0, .int 0, .int (-1), .long 0, .long 0])), (h 1, .inr (0, [.int 0, .ref e0, .int 0])), (qo, .inl (cO, 1, .inr (.inl fo)))] sz)) (va_Qi (S := Unit) (fun (r : Int32) (_ : Unit) => r = 1) (fun _ _ => True) (va_A [(h 0, .inr (12, [.ref (h 1), .ref (h 2), .ref (h 3), .ref (h 4), .ref (h 5), .ref (h 6), .ref (h 8), .ref (h 12), .ref (h 11), .int 0, .int 0, .int (-1), .long 0, .long 0])), (h 1, .inr (0, [.int 0, .ref e0, .int 0])), (qo, .inl (cO, 1, .inr (.inl fo)))] sz)) (pz_X pz_N False (va_A [(h 0, .inr (12, [.ref (h 1), .ref (h 2), .ref (h 3), .ref (h 4), .ref (h 5), .ref (h 6), .ref (h 8), .ref (h 12), .ref (h 11), .int 0, .int 0, .int (-1), .long 0, .long 0])), (h 1, .inr (0, [.int 0, .ref e0, .int 0])), (qo, .inl (cO, 1, .inr (.inl fo)))] sz)) 1 6 (va_A [(h 0, .inr (12, [.ref (h 1), .ref (h 2), .ref (h 3), .ref (h 4), .ref (h 5), .ref (h 6), .ref (h 8), .ref (h 12), .ref (h 11), .int 0, .int 0, .int (-1), .long 0, .long 0])), (h 1, .inr (0, [.int 0, .ref e0, .int 0])), (qo, .inl (cO, 1, .inr (.inl fo)))] sz) := by
  refine vx_ofWH (cc := cL_water) (maxL := 5) (ret := (some .int)) (hh := [(0, 10, 13, 13)]) (by decide) rfl ?_
  intro p e s m args below meth c s₁ B hml hv
  obtain ⟨rfl, hsz, hP, hK, hD0, hZ, hV, hT⟩ := hv
  have hx := B.exec
  have hb := B.bytes
  have hr := B.returns
  have hts := atoms_spec (ws := wsL_water) B.pre
  have hown : s.vm.findClass RL = some m.cls := findClass_of_methodNamed B.named
  have hlocks := B.notSynchronized
  have htab := vx_table (x := yL_water) B (hts _ List.mem_cons_self)
  subst hsz
  have hD := hD0.self (sz := s.heap.size)
  generalize hAe : va_A [(h 0, .inr (12, [.ref (h 1), .ref (h 2), .ref (h 3), .ref (h 4), .ref (h 5), .ref (h 6), .ref (h 8), .ref (h 12), .ref (h 11), .int 0, .int 0, .int (-1), .long 0, .long 0])), (h 1, .inr (0, [.int 0, .ref e0, .int 0])), (qo, .inl (cO, 1, .inr (.inl fo)))] s.heap.size = A at hD hZ hT ⊢
  have hA : ∀ q : Nat, s.heap.size ≤ q → A q := fun q h => by rw [← hAe]; exact Or.inr h
  have hS : va_S A s.heap s.heap [] := va_S.rf
  have hP : va_P (dC, dI) vwCl [(h 0, .inr (12, [.ref (h 1), .ref (h 2), .ref (h 3), .ref (h 4), .ref (h 5), .ref (h 6), .ref (h 8), .ref (h 12), .ref (h 11), .int 0, .int 0, .int (-1), .long 0, .long 0])), (h 1, .inr (0, [.int 0, .ref e0, .int 0])), (qo, .inl (cO, 1, .inr (.inl fo)))] s.heap := hP
  have hl := lv_entry ([.ref (h 0), .int p0, .int p1, .ref qo]) (n := 5) (Nat.le_of_ble_eq_true rfl)
  rw [lg_entry_eq]
  generalize (lg_sl ([.ref (h 0), .int p0, .int p1, .ref qo]) ++ List.replicate (5 - (lg_sl ([.ref (h 0), .int p0, .int p1, .ref qo])).length) Slot.unset).toArray = ls at hl ⊢
  have hl : lv_has ls 5 [(0, .ref (h 0)), (1, .int p0), (2, .int p1), (3, .ref qo)] := hl
  refine lv_aload_n hx hb dL_water_0 rfl (lv_at hl 3 rfl) ?_
  refine lv_iconst (v := 0) hx hb dL_water_1 (by decide) ?_
  refine lv_aload_n hx hb dL_water_2 rfl (lv_at hl 0 rfl) ?_
  refine lv_iload_n hx hb dL_water_3 rfl (lv_at hl 1 rfl) ?_
  refine lv_iload_n hx hb dL_water_4 rfl (lv_at hl 2 rfl) ?_
  have hPc := hP.sub (ws' := [(h 0, .inr (12, [.ref (h 1), .ref (h 2), .ref (h 3), .ref (h 4), .ref (h 5), .ref (h 6), .ref (h 8), .ref (h 12), .ref (h 11), .int 0, .int 0, .int (-1), .long 0, .long 0])), (h 1, .inr (0, [.int 0, .ref e0, .int 0]))]) [0, 1] rfl
  have hDc := hD.sub (ws' := [(h 0, .inr (12, [.ref (h 1), .ref (h 2), .ref (h 3), .ref (h 4), .ref (h 5), .ref (h 6), .ref (h 8), .ref (h 12), .ref (h 11), .int 0, .int 0, .int (-1), .long 0, .long 0])), (h 1, .inr (0, [.int 0, .ref e0, .int 0]))]) [0, 1] (by decide) rfl
  have hKc := hK.sub (tys' := []) [] rfl
  have hFc := va_free (wc := [(h 0, .inr (12, [.ref (h 1), .ref (h 2), .ref (h 3), .ref (h 4), .ref (h 5), .ref (h 6), .ref (h 8), .ref (h 12), .ref (h 11), .int 0, .int 0, .int (-1), .long 0, .long 0])), (h 1, .inr (0, [.int 0, .ref e0, .int 0]))]) hD hS hA [0, 1] rfl
  refine vx_callv (vx_runV (As := [.int p0, .int p1]) (rest := [.int 0, .ref qo]) ⟨hx, hb, hml, hown, hts⟩ (c_X11_water l hlt e0 dC dI s.heap.size h p0 p1) (cwV 2 hts gL_water_X11_water rfl rfl rfl (by decide +kernel) ⟨Nat.le_of_ble_eq_true rfl, Nat.le_of_ble_eq_true rfl⟩) (pz_preV [.int p0, .int p1] hPc hDc hKc hZ hV hT hS hFc (va_recv hKc hPc (ci := 12) (q0 := 0) rfl rfl)) rfl rfl hl.1 rfl (lv_room (Nat.le_of_ble_eq_true rfl)) dL_water_5 ⟨Nat.le_of_ble_eq_true rfl, Nat.le_of_ble_eq_true rfl⟩) hS (fun q _ h => hFc q h) hFc (fun q _ h => hFc q h) (fun E ce qx_5 u_2 t H locs ht hvm hpx hE hz1 hk1 hS hce hcv hcl => ?_) (fun u_2 t H locs ht hvm hw_3 hB_4 hz1 hk1 hS => ?_)
  ·
    obtain ⟨hP, hD⟩ := pz_rest (wr := [(qo, .inl (cO, 1, .inr (.inl fo)))]) hP hD [0, 1] [2] rfl rfl (by decide) (by decide) hk1 hFc
    subst hE
    refine pq_catch hown _ htab (by decide) (by decide) (hts (.classLink RL 13 pz_N) (by decide +kernel)) (va_any rfl hV.2.2.2.1.2.2.2.1) hce hcv hcl ?_
    refine W.eq (g2 := F0 m 13 ls [.ref qx_5]) rfl ?_
    refine lv_astore (lv' := [(4, .ref qx_5), (0, .ref (h 0)), (1, .int p0), (2, .int p1), (3, .ref qo)]) hx hb dL_water_13 hl (by decide) rfl (fun ls hl => ?_)
    refine lv_iconst (v := 1) hx hb dL_water_15 (by decide) ?_
    refine W.widen (k := 1) (n := 6) (Nat.le_of_ble_eq_true rfl) (Nat.le_of_ble_eq_true rfl) ?_
    refine vx_ret ?_
    exact W.iret (v := 1) hx hb hr (fun t ht hW => ⟨⟨1, (), rfl, rfl, trivial⟩, hS.F ht⟩) hS.2.2 dL_water_16
  · exact hw_3.elim
set_option maxHeartbeats 8000000 in
set_option maxRecDepth 100000 in
/-- the wrapper of board -/
theorem c_L_board (l : Launch) (hlt : l.stackTraces = false) (e0 : Nat) (dC : Nat → ClassId) (dI : Nat → Nat → Nat) (sz : Nat) (h : Nat → Nat) (qo : Nat) (cO : ClassId) (fo : Nat → Int64) (p0 : Int32) : vx_Met l yL_board wsL_board ({ frames := 7, cells := 1, slots := 6, locals := 105 }) (va_Pc [.ref (h 0), .int p0, .ref qo] (pz_P e0 (dC, dI) [(cO, .long)] [(h 0, .inr (12, [.ref (h 1), .ref (h 2), .ref (h 3), .ref (h 4), .ref (h 5), .ref (h 6), .ref (h 8), .ref (h 12), .ref (h 11), .int 0, .int 0, .int (-1), .long 0, .long 0])), (h 2, .inr (0, [.int 0, .ref e0, .int 0])), (qo, .inl (cO, 1, .inr (.inl fo)))] sz)) (va_Qi (S := Unit) (fun (r : Int32) (_ : Unit) => r = 1) (fun _ _ => True) (va_A [(h 0, .inr (12, [.ref (h 1), .ref (h 2), .ref (h 3), .ref (h 4), .ref (h 5), .ref (h 6), .ref (h 8), .ref (h 12), .ref (h 11), .int 0, .int 0, .int (-1), .long 0, .long 0])), (h 2, .inr (0, [.int 0, .ref e0, .int 0])), (qo, .inl (cO, 1, .inr (.inl fo)))] sz)) (pz_X pz_N False (va_A [(h 0, .inr (12, [.ref (h 1), .ref (h 2), .ref (h 3), .ref (h 4), .ref (h 5), .ref (h 6), .ref (h 8), .ref (h 12), .ref (h 11), .int 0, .int 0, .int (-1), .long 0, .long 0])), (h 2, .inr (0, [.int 0, .ref e0, .int 0])), (qo, .inl (cO, 1, .inr (.inl fo)))] sz)) 1 6 (va_A [(h 0, .inr (12, [.ref (h 1), .ref (h 2), .ref (h 3), .ref (h 4), .ref (h 5), .ref (h 6), .ref (h 8), .ref (h 12), .ref (h 11), .int 0, .int 0, .int (-1), .long 0, .long 0])), (h 2, .inr (0, [.int 0, .ref e0, .int 0])), (qo, .inl (cO, 1, .inr (.inl fo)))] sz) := by
  refine vx_ofWH (cc := cL_board) (maxL := 4) (ret := (some .int)) (hh := [(0, 9, 12, 13)]) (by decide) rfl ?_
  intro p e s m args below meth c s₁ B hml hv
  obtain ⟨rfl, hsz, hP, hK, hD0, hZ, hV, hT⟩ := hv
  have hx := B.exec
  have hb := B.bytes
  have hr := B.returns
  have hts := atoms_spec (ws := wsL_board) B.pre
  have hown : s.vm.findClass RL = some m.cls := findClass_of_methodNamed B.named
  have hlocks := B.notSynchronized
  have htab := vx_table (x := yL_board) B (hts _ List.mem_cons_self)
  subst hsz
  have hD := hD0.self (sz := s.heap.size)
  generalize hAe : va_A [(h 0, .inr (12, [.ref (h 1), .ref (h 2), .ref (h 3), .ref (h 4), .ref (h 5), .ref (h 6), .ref (h 8), .ref (h 12), .ref (h 11), .int 0, .int 0, .int (-1), .long 0, .long 0])), (h 2, .inr (0, [.int 0, .ref e0, .int 0])), (qo, .inl (cO, 1, .inr (.inl fo)))] s.heap.size = A at hD hZ hT ⊢
  have hA : ∀ q : Nat, s.heap.size ≤ q → A q := fun q h => by rw [← hAe]; exact Or.inr h
  have hS : va_S A s.heap s.heap [] := va_S.rf
  have hP : va_P (dC, dI) vwCl [(h 0, .inr (12, [.ref (h 1), .ref (h 2), .ref (h 3), .ref (h 4), .ref (h 5), .ref (h 6), .ref (h 8), .ref (h 12), .ref (h 11), .int 0, .int 0, .int (-1), .long 0, .long 0])), (h 2, .inr (0, [.int 0, .ref e0, .int 0])), (qo, .inl (cO, 1, .inr (.inl fo)))] s.heap := hP
  have hl := lv_entry ([.ref (h 0), .int p0, .ref qo]) (n := 4) (Nat.le_of_ble_eq_true rfl)
  rw [lg_entry_eq]
  generalize (lg_sl ([.ref (h 0), .int p0, .ref qo]) ++ List.replicate (4 - (lg_sl ([.ref (h 0), .int p0, .ref qo])).length) Slot.unset).toArray = ls at hl ⊢
  have hl : lv_has ls 4 [(0, .ref (h 0)), (1, .int p0), (2, .ref qo)] := hl
  refine lv_aload_n hx hb dL_board_0 rfl (lv_at hl 2 rfl) ?_
  refine lv_iconst (v := 0) hx hb dL_board_1 (by decide) ?_
  refine lv_aload_n hx hb dL_board_2 rfl (lv_at hl 0 rfl) ?_
  refine lv_iload_n hx hb dL_board_3 rfl (lv_at hl 1 rfl) ?_
  have hPc := hP.sub (ws' := [(h 0, .inr (12, [.ref (h 1), .ref (h 2), .ref (h 3), .ref (h 4), .ref (h 5), .ref (h 6), .ref (h 8), .ref (h 12), .ref (h 11), .int 0, .int 0, .int (-1), .long 0, .long 0])), (h 2, .inr (0, [.int 0, .ref e0, .int 0]))]) [0, 1] rfl
  have hDc := hD.sub (ws' := [(h 0, .inr (12, [.ref (h 1), .ref (h 2), .ref (h 3), .ref (h 4), .ref (h 5), .ref (h 6), .ref (h 8), .ref (h 12), .ref (h 11), .int 0, .int 0, .int (-1), .long 0, .long 0])), (h 2, .inr (0, [.int 0, .ref e0, .int 0]))]) [0, 1] (by decide) rfl
  have hKc := hK.sub (tys' := []) [] rfl
  have hFc := va_free (wc := [(h 0, .inr (12, [.ref (h 1), .ref (h 2), .ref (h 3), .ref (h 4), .ref (h 5), .ref (h 6), .ref (h 8), .ref (h 12), .ref (h 11), .int 0, .int 0, .int (-1), .long 0, .long 0])), (h 2, .inr (0, [.int 0, .ref e0, .int 0]))]) hD hS hA [0, 1] rfl
  refine vx_callv (vx_runV (As := [.int p0]) (rest := [.int 0, .ref qo]) ⟨hx, hb, hml, hown, hts⟩ (c_X11_board l hlt e0 dC dI s.heap.size h p0) (cwV 1 hts gL_board_X11_board rfl rfl rfl (by decide +kernel) ⟨Nat.le_of_ble_eq_true rfl, Nat.le_of_ble_eq_true rfl⟩) (pz_preV [.int p0] hPc hDc hKc hZ hV hT hS hFc (va_recv hKc hPc (ci := 12) (q0 := 0) rfl rfl)) rfl rfl hl.1 rfl (lv_room (Nat.le_of_ble_eq_true rfl)) dL_board_4 ⟨Nat.le_of_ble_eq_true rfl, Nat.le_of_ble_eq_true rfl⟩) hS (fun q _ h => hFc q h) hFc (fun q _ h => hFc q h) (fun E ce qx_5 u_2 t H locs ht hvm hpx hE hz1 hk1 hS hce hcv hcl => ?_) (fun u_2 t H locs ht hvm hw_3 hB_4 hz1 hk1 hS => ?_)
  ·
    obtain ⟨hP, hD⟩ := pz_rest (wr := [(qo, .inl (cO, 1, .inr (.inl fo)))]) hP hD [0, 1] [2] rfl rfl (by decide) (by decide) hk1 hFc
    subst hE
    refine pq_catch hown _ htab (by decide) (by decide) (hts (.classLink RL 13 pz_N) (by decide +kernel)) (va_any rfl hV.2.2.2.1.2.2.2.1) hce hcv hcl ?_
    refine W.eq (g2 := F0 m 12 ls [.ref qx_5]) rfl ?_
    refine lv_astore_n (lv' := [(3, .ref qx_5), (0, .ref (h 0)), (1, .int p0), (2, .ref qo)]) hx hb dL_board_12 rfl hl (by decide) rfl (fun ls hl => ?_)
    refine lv_iconst (v := 1) hx hb dL_board_13 (by decide) ?_
    refine W.widen (k := 1) (n := 6) (Nat.le_of_ble_eq_true rfl) (Nat.le_of_ble_eq_true rfl) ?_
    refine vx_ret ?_
    exact W.iret (v := 1) hx hb hr (fun t ht hW => ⟨⟨1, (), rfl, rfl, trivial⟩, hS.F ht⟩) hS.2.2 dL_board_14
  · exact hw_3.elim
set_option maxHeartbeats 8000000 in
set_option maxRecDepth 100000 in
/-- the wrapper of paid -/
theorem c_L_paid (l : Launch) (hlt : l.stackTraces = false) (e0 : Nat) (dC : Nat → ClassId) (dI : Nat → Nat → Nat) (sz : Nat) (h : Nat → Nat) (ca : Nat → ClassId) (qo : Nat) (cO : ClassId) (fo : Nat → Int64) (p0 : Int32) : vx_Met l yL_paid wsL_paid ({ frames := 7, cells := 1, slots := 6, locals := 103 }) (va_Pc [.ref (h 0), .int p0, .ref qo] (pz_P e0 (dC, dI) [(ca 2, .long), (cO, .long)] [(h 0, .inr (12, [.ref (h 1), .ref (h 2), .ref (h 3), .ref (h 4), .ref (h 5), .ref (h 6), .ref (h 8), .ref (h 12), .ref (h 11), .int 0, .int 0, .int (-1), .long 0, .long 0])), (h 11, .inl (ca 2, 16, .inr (.inl (fun _ => 0)))), (qo, .inl (cO, 1, .inr (.inl fo)))] sz)) (va_Qi (S := Nat → Int64) (fun (r : Int32) (u : Nat → Int64) => ((¬ (0 ≤ p0 ∧ p0 ≤ 15)) ∧ r = 1) ∨ (¬ (¬ (0 ≤ p0 ∧ p0 ≤ 15)) ∧ r = 0 ∧ u (Int32.toNatClampNeg 0) = 0)) (fun u t => va_P (dC, dI) vwCl [(qo, .inl (cO, 1, .inr (.inl u)))] t.heap ∧ va_D (va_A [(h 0, .inr (12, [.ref (h 1), .ref (h 2), .ref (h 3), .ref (h 4), .ref (h 5), .ref (h 6), .ref (h 8), .ref (h 12), .ref (h 11), .int 0, .int 0, .int (-1), .long 0, .long 0])), (h 11, .inl (ca 2, 16, .inr (.inl (fun _ => 0)))), (qo, .inl (cO, 1, .inr (.inl fo)))] sz) [(qo, .inl (cO, 1, .inr (.inl u)))]) (va_A [(h 0, .inr (12, [.ref (h 1), .ref (h 2), .ref (h 3), .ref (h 4), .ref (h 5), .ref (h 6), .ref (h 8), .ref (h 12), .ref (h 11), .int 0, .int 0, .int (-1), .long 0, .long 0])), (h 11, .inl (ca 2, 16, .inr (.inl (fun _ => 0)))), (qo, .inl (cO, 1, .inr (.inl fo)))] sz)) (pz_X pz_N False (va_A [(h 0, .inr (12, [.ref (h 1), .ref (h 2), .ref (h 3), .ref (h 4), .ref (h 5), .ref (h 6), .ref (h 8), .ref (h 12), .ref (h 11), .int 0, .int 0, .int (-1), .long 0, .long 0])), (h 11, .inl (ca 2, 16, .inr (.inl (fun _ => 0)))), (qo, .inl (cO, 1, .inr (.inl fo)))] sz)) 1 6 (va_A [(h 0, .inr (12, [.ref (h 1), .ref (h 2), .ref (h 3), .ref (h 4), .ref (h 5), .ref (h 6), .ref (h 8), .ref (h 12), .ref (h 11), .int 0, .int 0, .int (-1), .long 0, .long 0])), (h 11, .inl (ca 2, 16, .inr (.inl (fun _ => 0)))), (qo, .inl (cO, 1, .inr (.inl fo)))] sz) := by
  refine vx_ofWH (cc := cL_paid) (maxL := 4) (ret := (some .int)) (hh := [(0, 8, 11, 13)]) (by decide) rfl ?_
  intro p e s m args below meth c s₁ B hml hv
  obtain ⟨rfl, hsz, hP, hK, hD0, hZ, hV, hT⟩ := hv
  have hx := B.exec
  have hb := B.bytes
  have hr := B.returns
  have hts := atoms_spec (ws := wsL_paid) B.pre
  have hown : s.vm.findClass RL = some m.cls := findClass_of_methodNamed B.named
  have hlocks := B.notSynchronized
  have htab := vx_table (x := yL_paid) B (hts _ List.mem_cons_self)
  subst hsz
  have hD := hD0.self (sz := s.heap.size)
  generalize hAe : va_A [(h 0, .inr (12, [.ref (h 1), .ref (h 2), .ref (h 3), .ref (h 4), .ref (h 5), .ref (h 6), .ref (h 8), .ref (h 12), .ref (h 11), .int 0, .int 0, .int (-1), .long 0, .long 0])), (h 11, .inl (ca 2, 16, .inr (.inl (fun _ => 0)))), (qo, .inl (cO, 1, .inr (.inl fo)))] s.heap.size = A at hD hZ hT ⊢
  have hA : ∀ q : Nat, s.heap.size ≤ q → A q := fun q h => by rw [← hAe]; exact Or.inr h
  have hS : va_S A s.heap s.heap [] := va_S.rf
  have hP : va_P (dC, dI) vwCl [(h 0, .inr (12, [.ref (h 1), .ref (h 2), .ref (h 3), .ref (h 4), .ref (h 5), .ref (h 6), .ref (h 8), .ref (h 12), .ref (h 11), .int 0, .int 0, .int (-1), .long 0, .long 0])), (h 11, .inl (ca 2, 16, .inr (.inl (fun _ => 0)))), (qo, .inl (cO, 1, .inr (.inl fo)))] s.heap := hP
  have hl := lv_entry ([.ref (h 0), .int p0, .ref qo]) (n := 4) (Nat.le_of_ble_eq_true rfl)
  rw [lg_entry_eq]
  generalize (lg_sl ([.ref (h 0), .int p0, .ref qo]) ++ List.replicate (4 - (lg_sl ([.ref (h 0), .int p0, .ref qo])).length) Slot.unset).toArray = ls at hl ⊢
  have hl : lv_has ls 4 [(0, .ref (h 0)), (1, .int p0), (2, .ref qo)] := hl
  refine lv_aload_n hx hb dL_paid_0 rfl (lv_at hl 2 rfl) ?_
  refine lv_iconst (v := 0) hx hb dL_paid_1 (by decide) ?_
  refine lv_aload_n hx hb dL_paid_2 rfl (lv_at hl 0 rfl) ?_
  refine lv_iload_n hx hb dL_paid_3 rfl (lv_at hl 1 rfl) ?_
  have hPc := hP.sub (ws' := [(h 0, .inr (12, [.ref (h 1), .ref (h 2), .ref (h 3), .ref (h 4), .ref (h 5), .ref (h 6), .ref (h 8), .ref (h 12), .ref (h 11), .int 0, .int 0, .int (-1), .long 0, .long 0])), (h 11, .inl (ca 2, 16, .inr (.inl (fun _ => 0))))]) [0, 1] rfl
  have hDc := hD.sub (ws' := [(h 0, .inr (12, [.ref (h 1), .ref (h 2), .ref (h 3), .ref (h 4), .ref (h 5), .ref (h 6), .ref (h 8), .ref (h 12), .ref (h 11), .int 0, .int 0, .int (-1), .long 0, .long 0])), (h 11, .inl (ca 2, 16, .inr (.inl (fun _ => 0))))]) [0, 1] (by decide) rfl
  have hKc := hK.sub (tys' := [(ca 2, .long)]) [0] rfl
  have hFc := va_free (wc := [(h 0, .inr (12, [.ref (h 1), .ref (h 2), .ref (h 3), .ref (h 4), .ref (h 5), .ref (h 6), .ref (h 8), .ref (h 12), .ref (h 11), .int 0, .int 0, .int (-1), .long 0, .long 0])), (h 11, .inl (ca 2, 16, .inr (.inl (fun _ => 0))))]) hD hS hA [0, 1] rfl
  refine vx_calll (vx_runV (As := [.int p0]) (rest := [.int 0, .ref qo]) ⟨hx, hb, hml, hown, hts⟩ (c_X11_paid l hlt e0 dC dI s.heap.size h ca p0) (cwV 1 hts gL_paid_X11_paid rfl rfl rfl (by decide +kernel) ⟨Nat.le_of_ble_eq_true rfl, Nat.le_of_ble_eq_true rfl⟩) (pz_preV [.int p0] hPc hDc hKc hZ hV hT hS hFc (va_recv hKc hPc (ci := 12) (q0 := 0) rfl rfl)) rfl rfl hl.1 rfl (lv_room (Nat.le_of_ble_eq_true rfl)) dL_paid_4 ⟨Nat.le_of_ble_eq_true rfl, Nat.le_of_ble_eq_true rfl⟩) hS (fun q _ h => hFc q h) hFc (fun q _ h => hFc q h) (fun E ce qx_5 u_2 t H locs ht hvm hpx hE hz1 hk1 hS hce hcv hcl => ?_) (fun r_1 u_2 t H locs ht hvm hw_3 hB_4 hz1 hk1 hS => ?_)
  ·
    obtain ⟨hP, hD⟩ := pz_rest (wr := [(qo, .inl (cO, 1, .inr (.inl fo)))]) hP hD [0, 1] [2] rfl rfl (by decide) (by decide) hk1 hFc
    subst hE
    refine pq_catch hown _ htab (by decide) (by decide) (hts (.classLink RL 13 pz_N) (by decide +kernel)) (va_any rfl hV.2.2.2.1.2.2.2.1) hce hcv hcl ?_
    refine W.eq (g2 := F0 m 11 ls [.ref qx_5]) rfl ?_
    refine lv_astore_n (lv' := [(3, .ref qx_5), (0, .ref (h 0)), (1, .int p0), (2, .ref qo)]) hx hb dL_paid_11 rfl hl (by decide) rfl (fun ls hl => ?_)
    refine lv_iconst (v := 1) hx hb dL_paid_12 (by decide) ?_
    refine W.widen (k := 1) (n := 6) (Nat.le_of_ble_eq_true rfl) (Nat.le_of_ble_eq_true rfl) ?_
    refine vx_ret ?_
    have hP9 := hP.sub (ws' := [(qo, .inl (cO, 1, .inr (.inl fo)))]) [0] rfl
    have hD9 := hD.sub (ws' := [(qo, .inl (cO, 1, .inr (.inl fo)))]) [0] (by decide) rfl
    exact W.iret (v := 1) hx hb hr (fun t ht hW => ⟨⟨1, fo, rfl, Or.inl ⟨hpx, rfl⟩, ⟨(by rw [ht]; exact hP9), hD9⟩⟩, hS.F ht⟩) hS.2.2 dL_paid_13
  ·
    obtain ⟨hP, hD⟩ := pz_rest (wr := [(qo, .inl (cO, 1, .inr (.inl fo)))]) hP hD [0, 1] [2] rfl rfl (by decide) (by decide) hk1 hFc
    obtain ⟨rfl, hok⟩ := hw_3
    refine va_last hx hb hK hP hD hS 0 1 rfl rfl (pz_inK (by decide)) dL_paid_7 (fun H locs hP hD hS => ?_)
    have hP : va_P (dC, dI) vwCl [(qo, .inl (cO, 1, .inr (.inl (vp_updL fo (Int32.toNatClampNeg 0) 0))))] H := hP
    have hD : va_D A [(qo, .inl (cO, 1, .inr (.inl (vp_updL fo (Int32.toNatClampNeg 0) 0))))] := hD
    refine lv_goto (tgt := 14) hx hb dL_paid_8 (by decide) ?_
    refine lv_iconst (v := 0) hx hb dL_paid_14 (by decide) ?_
    refine W.widen (k := 1) (n := 6) (Nat.le_of_ble_eq_true rfl) (Nat.le_of_ble_eq_true rfl) ?_
    refine vx_ret ?_
    have hP9 := hP.sub (ws' := [(qo, .inl (cO, 1, .inr (.inl (vp_updL fo (Int32.toNatClampNeg 0) 0))))]) [0] rfl
    have hD9 := hD.sub (ws' := [(qo, .inl (cO, 1, .inr (.inl (vp_updL fo (Int32.toNatClampNeg 0) 0))))]) [0] (by decide) rfl
    exact W.iret (v := 0) hx hb hr (fun t ht hW => ⟨⟨0, vp_updL fo (Int32.toNatClampNeg 0) 0, rfl, Or.inr ⟨(not_not_intro hok), rfl, rfl⟩, ⟨(by rw [ht]; exact hP9), hD9⟩⟩, hS.F ht⟩) hS.2.2 dL_paid_15
set_option maxHeartbeats 8000000 in
set_option maxRecDepth 100000 in
/-- the wrapper of waters -/
theorem c_L_waters (l : Launch) (hlt : l.stackTraces = false) (e0 : Nat) (dC : Nat → ClassId) (dI : Nat → Nat → Nat) (sz : Nat) (h : Nat → Nat) (qo : Nat) (cO : ClassId) (fo : Nat → Int64) (p0 : Int32) : vx_Met l yL_waters wsL_waters ({ frames := 7, cells := 1, slots := 6, locals := 103 }) (va_Pc [.ref (h 0), .int p0, .ref qo] (pz_P e0 (dC, dI) [(cO, .long)] [(h 0, .inr (12, [.ref (h 1), .ref (h 2), .ref (h 3), .ref (h 4), .ref (h 5), .ref (h 6), .ref (h 8), .ref (h 12), .ref (h 11), .int 0, .int 0, .int (-1), .long 0, .long 0])), (qo, .inl (cO, 1, .inr (.inl fo)))] sz)) (va_Qi (S := Nat → Int64) (fun (r : Int32) (u : Nat → Int64) => ((¬ p0 = 0 ∧ ¬ p0 = 1) ∧ r = 1) ∨ (¬ (¬ p0 = 0 ∧ ¬ p0 = 1) ∧ r = 0 ∧ u (Int32.toNatClampNeg 0) = 0)) (fun u t => va_P (dC, dI) vwCl [(qo, .inl (cO, 1, .inr (.inl u)))] t.heap ∧ va_D (va_A [(h 0, .inr (12, [.ref (h 1), .ref (h 2), .ref (h 3), .ref (h 4), .ref (h 5), .ref (h 6), .ref (h 8), .ref (h 12), .ref (h 11), .int 0, .int 0, .int (-1), .long 0, .long 0])), (qo, .inl (cO, 1, .inr (.inl fo)))] sz) [(qo, .inl (cO, 1, .inr (.inl u)))]) (va_A [(h 0, .inr (12, [.ref (h 1), .ref (h 2), .ref (h 3), .ref (h 4), .ref (h 5), .ref (h 6), .ref (h 8), .ref (h 12), .ref (h 11), .int 0, .int 0, .int (-1), .long 0, .long 0])), (qo, .inl (cO, 1, .inr (.inl fo)))] sz)) (pz_X pz_N False (va_A [(h 0, .inr (12, [.ref (h 1), .ref (h 2), .ref (h 3), .ref (h 4), .ref (h 5), .ref (h 6), .ref (h 8), .ref (h 12), .ref (h 11), .int 0, .int 0, .int (-1), .long 0, .long 0])), (qo, .inl (cO, 1, .inr (.inl fo)))] sz)) 1 6 (va_A [(h 0, .inr (12, [.ref (h 1), .ref (h 2), .ref (h 3), .ref (h 4), .ref (h 5), .ref (h 6), .ref (h 8), .ref (h 12), .ref (h 11), .int 0, .int 0, .int (-1), .long 0, .long 0])), (qo, .inl (cO, 1, .inr (.inl fo)))] sz) := by
  refine vx_ofWH (cc := cL_waters) (maxL := 4) (ret := (some .int)) (hh := [(0, 8, 11, 13)]) (by decide) rfl ?_
  intro p e s m args below meth c s₁ B hml hv
  obtain ⟨rfl, hsz, hP, hK, hD0, hZ, hV, hT⟩ := hv
  have hx := B.exec
  have hb := B.bytes
  have hr := B.returns
  have hts := atoms_spec (ws := wsL_waters) B.pre
  have hown : s.vm.findClass RL = some m.cls := findClass_of_methodNamed B.named
  have hlocks := B.notSynchronized
  have htab := vx_table (x := yL_waters) B (hts _ List.mem_cons_self)
  subst hsz
  have hD := hD0.self (sz := s.heap.size)
  generalize hAe : va_A [(h 0, .inr (12, [.ref (h 1), .ref (h 2), .ref (h 3), .ref (h 4), .ref (h 5), .ref (h 6), .ref (h 8), .ref (h 12), .ref (h 11), .int 0, .int 0, .int (-1), .long 0, .long 0])), (qo, .inl (cO, 1, .inr (.inl fo)))] s.heap.size = A at hD hZ hT ⊢
  have hA : ∀ q : Nat, s.heap.size ≤ q → A q := fun q h => by rw [← hAe]; exact Or.inr h
  have hS : va_S A s.heap s.heap [] := va_S.rf
  have hP : va_P (dC, dI) vwCl [(h 0, .inr (12, [.ref (h 1), .ref (h 2), .ref (h 3), .ref (h 4), .ref (h 5), .ref (h 6), .ref (h 8), .ref (h 12), .ref (h 11), .int 0, .int 0, .int (-1), .long 0, .long 0])), (qo, .inl (cO, 1, .inr (.inl fo)))] s.heap := hP
  have hl := lv_entry ([.ref (h 0), .int p0, .ref qo]) (n := 4) (Nat.le_of_ble_eq_true rfl)
  rw [lg_entry_eq]
  generalize (lg_sl ([.ref (h 0), .int p0, .ref qo]) ++ List.replicate (4 - (lg_sl ([.ref (h 0), .int p0, .ref qo])).length) Slot.unset).toArray = ls at hl ⊢
  have hl : lv_has ls 4 [(0, .ref (h 0)), (1, .int p0), (2, .ref qo)] := hl
  refine lv_aload_n hx hb dL_waters_0 rfl (lv_at hl 2 rfl) ?_
  refine lv_iconst (v := 0) hx hb dL_waters_1 (by decide) ?_
  refine lv_aload_n hx hb dL_waters_2 rfl (lv_at hl 0 rfl) ?_
  refine lv_iload_n hx hb dL_waters_3 rfl (lv_at hl 1 rfl) ?_
  have hPc := hP.sub (ws' := [(h 0, .inr (12, [.ref (h 1), .ref (h 2), .ref (h 3), .ref (h 4), .ref (h 5), .ref (h 6), .ref (h 8), .ref (h 12), .ref (h 11), .int 0, .int 0, .int (-1), .long 0, .long 0]))]) [0] rfl
  have hDc := hD.sub (ws' := [(h 0, .inr (12, [.ref (h 1), .ref (h 2), .ref (h 3), .ref (h 4), .ref (h 5), .ref (h 6), .ref (h 8), .ref (h 12), .ref (h 11), .int 0, .int 0, .int (-1), .long 0, .long 0]))]) [0] (by decide) rfl
  have hKc := hK.sub (tys' := []) [] rfl
  have hFc := va_free (wc := [(h 0, .inr (12, [.ref (h 1), .ref (h 2), .ref (h 3), .ref (h 4), .ref (h 5), .ref (h 6), .ref (h 8), .ref (h 12), .ref (h 11), .int 0, .int 0, .int (-1), .long 0, .long 0]))]) hD hS hA [0] rfl
  refine vx_calll (vx_runV (As := [.int p0]) (rest := [.int 0, .ref qo]) ⟨hx, hb, hml, hown, hts⟩ (c_X11_waters l hlt e0 dC dI s.heap.size h p0) (cwV 1 hts gL_waters_X11_waters rfl rfl rfl (by decide +kernel) ⟨Nat.le_of_ble_eq_true rfl, Nat.le_of_ble_eq_true rfl⟩) (pz_preV [.int p0] hPc hDc hKc hZ hV hT hS hFc (va_recv hKc hPc (ci := 12) (q0 := 0) rfl rfl)) rfl rfl hl.1 rfl (lv_room (Nat.le_of_ble_eq_true rfl)) dL_waters_4 ⟨Nat.le_of_ble_eq_true rfl, Nat.le_of_ble_eq_true rfl⟩) hS (fun q _ h => hFc q h) hFc (fun q _ h => hFc q h) (fun E ce qx_5 u_2 t H locs ht hvm hpx hE hz1 hk1 hS hce hcv hcl => ?_) (fun r_1 u_2 t H locs ht hvm hw_3 hB_4 hz1 hk1 hS => ?_)
  ·
    obtain ⟨hP, hD⟩ := pz_rest (wr := [(qo, .inl (cO, 1, .inr (.inl fo)))]) hP hD [0] [1] rfl rfl (by decide) (by decide) hk1 hFc
    subst hE
    refine pq_catch hown _ htab (by decide) (by decide) (hts (.classLink RL 13 pz_N) (by decide +kernel)) (va_any rfl hV.2.2.2.1.2.2.2.1) hce hcv hcl ?_
    refine W.eq (g2 := F0 m 11 ls [.ref qx_5]) rfl ?_
    refine lv_astore_n (lv' := [(3, .ref qx_5), (0, .ref (h 0)), (1, .int p0), (2, .ref qo)]) hx hb dL_waters_11 rfl hl (by decide) rfl (fun ls hl => ?_)
    refine lv_iconst (v := 1) hx hb dL_waters_12 (by decide) ?_
    refine W.widen (k := 1) (n := 6) (Nat.le_of_ble_eq_true rfl) (Nat.le_of_ble_eq_true rfl) ?_
    refine vx_ret ?_
    have hP9 := hP.sub (ws' := [(qo, .inl (cO, 1, .inr (.inl fo)))]) [0] rfl
    have hD9 := hD.sub (ws' := [(qo, .inl (cO, 1, .inr (.inl fo)))]) [0] (by decide) rfl
    exact W.iret (v := 1) hx hb hr (fun t ht hW => ⟨⟨1, fo, rfl, Or.inl ⟨hpx, rfl⟩, ⟨(by rw [ht]; exact hP9), hD9⟩⟩, hS.F ht⟩) hS.2.2 dL_waters_13
  ·
    obtain ⟨hP, hD⟩ := pz_rest (wr := [(qo, .inl (cO, 1, .inr (.inl fo)))]) hP hD [0] [1] rfl rfl (by decide) (by decide) hk1 hFc
    obtain ⟨rfl, hok⟩ := hw_3
    refine va_last hx hb hK hP hD hS 0 0 rfl rfl (pz_inK (by decide)) dL_waters_7 (fun H locs hP hD hS => ?_)
    have hP : va_P (dC, dI) vwCl [(qo, .inl (cO, 1, .inr (.inl (vp_updL fo (Int32.toNatClampNeg 0) 0))))] H := hP
    have hD : va_D A [(qo, .inl (cO, 1, .inr (.inl (vp_updL fo (Int32.toNatClampNeg 0) 0))))] := hD
    refine lv_goto (tgt := 14) hx hb dL_waters_8 (by decide) ?_
    refine lv_iconst (v := 0) hx hb dL_waters_14 (by decide) ?_
    refine W.widen (k := 1) (n := 6) (Nat.le_of_ble_eq_true rfl) (Nat.le_of_ble_eq_true rfl) ?_
    refine vx_ret ?_
    have hP9 := hP.sub (ws' := [(qo, .inl (cO, 1, .inr (.inl (vp_updL fo (Int32.toNatClampNeg 0) 0))))]) [0] rfl
    have hD9 := hD.sub (ws' := [(qo, .inl (cO, 1, .inr (.inl (vp_updL fo (Int32.toNatClampNeg 0) 0))))]) [0] (by decide) rfl
    exact W.iret (v := 0) hx hb hr (fun t ht hW => ⟨⟨0, vp_updL fo (Int32.toNatClampNeg 0) 0, rfl, Or.inr ⟨(hok), rfl, rfl⟩, ⟨(by rw [ht]; exact hP9), hD9⟩⟩, hS.F ht⟩) hS.2.2 dL_waters_15
set_option maxHeartbeats 8000000 in
set_option maxRecDepth 100000 in
/-- the wrapper of count -/
theorem c_L_count (l : Launch) (hlt : l.stackTraces = false) (e0 : Nat) (dC : Nat → ClassId) (dI : Nat → Nat → Nat) (sz : Nat) (h : Nat → Nat) (qo : Nat) (cO : ClassId) (fo : Nat → Int64) (p0 : Int32) : vx_Met l yL_count wsL_count ({ frames := 7, cells := 1, slots := 6, locals := 103 }) (va_Pc [.ref (h 0), .int p0, .ref qo] (pz_P e0 (dC, dI) [(cO, .long)] [(h 0, .inr (12, [.ref (h 1), .ref (h 2), .ref (h 3), .ref (h 4), .ref (h 5), .ref (h 6), .ref (h 8), .ref (h 12), .ref (h 11), .int 0, .int 0, .int (-1), .long 0, .long 0])), (h 1, .inr (0, [.int 0, .ref e0, .int 0])), (h 2, .inr (0, [.int 0, .ref e0, .int 0])), (h 3, .inr (0, [.int 0, .ref e0, .int 0])), (h 4, .inr (0, [.int 0, .ref e0, .int 0])), (h 5, .inr (0, [.int 0, .ref e0, .int 0])), (h 6, .inr (10, [.ref (h 7), .int 0])), (qo, .inl (cO, 1, .inr (.inl fo)))] sz)) (va_Qi (S := Nat → Int64) (fun (r : Int32) (u : Nat → Int64) => ((¬ p0 = 0 ∧ ¬ p0 = 1 ∧ ¬ p0 = 2 ∧ ¬ p0 = 3 ∧ ¬ p0 = 4 ∧ ¬ p0 = 5 ∧ ¬ p0 = 6 ∧ ¬ p0 = 7 ∧ ¬ p0 = 8 ∧ ¬ p0 = 9) ∧ r = 1) ∨ (¬ (¬ p0 = 0 ∧ ¬ p0 = 1 ∧ ¬ p0 = 2 ∧ ¬ p0 = 3 ∧ ¬ p0 = 4 ∧ ¬ p0 = 5 ∧ ¬ p0 = 6 ∧ ¬ p0 = 7 ∧ ¬ p0 = 8 ∧ ¬ p0 = 9) ∧ r = 0 ∧ u (Int32.toNatClampNeg 0) = 0)) (fun u t => va_P (dC, dI) vwCl [(qo, .inl (cO, 1, .inr (.inl u)))] t.heap ∧ va_D (va_A [(h 0, .inr (12, [.ref (h 1), .ref (h 2), .ref (h 3), .ref (h 4), .ref (h 5), .ref (h 6), .ref (h 8), .ref (h 12), .ref (h 11), .int 0, .int 0, .int (-1), .long 0, .long 0])), (h 1, .inr (0, [.int 0, .ref e0, .int 0])), (h 2, .inr (0, [.int 0, .ref e0, .int 0])), (h 3, .inr (0, [.int 0, .ref e0, .int 0])), (h 4, .inr (0, [.int 0, .ref e0, .int 0])), (h 5, .inr (0, [.int 0, .ref e0, .int 0])), (h 6, .inr (10, [.ref (h 7), .int 0])), (qo, .inl (cO, 1, .inr (.inl fo)))] sz) [(qo, .inl (cO, 1, .inr (.inl u)))]) (va_A [(h 0, .inr (12, [.ref (h 1), .ref (h 2), .ref (h 3), .ref (h 4), .ref (h 5), .ref (h 6), .ref (h 8), .ref (h 12), .ref (h 11), .int 0, .int 0, .int (-1), .long 0, .long 0])), (h 1, .inr (0, [.int 0, .ref e0, .int 0])), (h 2, .inr (0, [.int 0, .ref e0, .int 0])), (h 3, .inr (0, [.int 0, .ref e0, .int 0])), (h 4, .inr (0, [.int 0, .ref e0, .int 0])), (h 5, .inr (0, [.int 0, .ref e0, .int 0])), (h 6, .inr (10, [.ref (h 7), .int 0])), (qo, .inl (cO, 1, .inr (.inl fo)))] sz)) (pz_X pz_N False (va_A [(h 0, .inr (12, [.ref (h 1), .ref (h 2), .ref (h 3), .ref (h 4), .ref (h 5), .ref (h 6), .ref (h 8), .ref (h 12), .ref (h 11), .int 0, .int 0, .int (-1), .long 0, .long 0])), (h 1, .inr (0, [.int 0, .ref e0, .int 0])), (h 2, .inr (0, [.int 0, .ref e0, .int 0])), (h 3, .inr (0, [.int 0, .ref e0, .int 0])), (h 4, .inr (0, [.int 0, .ref e0, .int 0])), (h 5, .inr (0, [.int 0, .ref e0, .int 0])), (h 6, .inr (10, [.ref (h 7), .int 0])), (qo, .inl (cO, 1, .inr (.inl fo)))] sz)) 1 6 (va_A [(h 0, .inr (12, [.ref (h 1), .ref (h 2), .ref (h 3), .ref (h 4), .ref (h 5), .ref (h 6), .ref (h 8), .ref (h 12), .ref (h 11), .int 0, .int 0, .int (-1), .long 0, .long 0])), (h 1, .inr (0, [.int 0, .ref e0, .int 0])), (h 2, .inr (0, [.int 0, .ref e0, .int 0])), (h 3, .inr (0, [.int 0, .ref e0, .int 0])), (h 4, .inr (0, [.int 0, .ref e0, .int 0])), (h 5, .inr (0, [.int 0, .ref e0, .int 0])), (h 6, .inr (10, [.ref (h 7), .int 0])), (qo, .inl (cO, 1, .inr (.inl fo)))] sz) := by
  refine vx_ofWH (cc := cL_count) (maxL := 4) (ret := (some .int)) (hh := [(0, 9, 12, 13)]) (by decide) rfl ?_
  intro p e s m args below meth c s₁ B hml hv
  obtain ⟨rfl, hsz, hP, hK, hD0, hZ, hV, hT⟩ := hv
  have hx := B.exec
  have hb := B.bytes
  have hr := B.returns
  have hts := atoms_spec (ws := wsL_count) B.pre
  have hown : s.vm.findClass RL = some m.cls := findClass_of_methodNamed B.named
  have hlocks := B.notSynchronized
  have htab := vx_table (x := yL_count) B (hts _ List.mem_cons_self)
  subst hsz
  have hD := hD0.self (sz := s.heap.size)
  generalize hAe : va_A [(h 0, .inr (12, [.ref (h 1), .ref (h 2), .ref (h 3), .ref (h 4), .ref (h 5), .ref (h 6), .ref (h 8), .ref (h 12), .ref (h 11), .int 0, .int 0, .int (-1), .long 0, .long 0])), (h 1, .inr (0, [.int 0, .ref e0, .int 0])), (h 2, .inr (0, [.int 0, .ref e0, .int 0])), (h 3, .inr (0, [.int 0, .ref e0, .int 0])), (h 4, .inr (0, [.int 0, .ref e0, .int 0])), (h 5, .inr (0, [.int 0, .ref e0, .int 0])), (h 6, .inr (10, [.ref (h 7), .int 0])), (qo, .inl (cO, 1, .inr (.inl fo)))] s.heap.size = A at hD hZ hT ⊢
  have hA : ∀ q : Nat, s.heap.size ≤ q → A q := fun q h => by rw [← hAe]; exact Or.inr h
  have hS : va_S A s.heap s.heap [] := va_S.rf
  have hP : va_P (dC, dI) vwCl [(h 0, .inr (12, [.ref (h 1), .ref (h 2), .ref (h 3), .ref (h 4), .ref (h 5), .ref (h 6), .ref (h 8), .ref (h 12), .ref (h 11), .int 0, .int 0, .int (-1), .long 0, .long 0])), (h 1, .inr (0, [.int 0, .ref e0, .int 0])), (h 2, .inr (0, [.int 0, .ref e0, .int 0])), (h 3, .inr (0, [.int 0, .ref e0, .int 0])), (h 4, .inr (0, [.int 0, .ref e0, .int 0])), (h 5, .inr (0, [.int 0, .ref e0, .int 0])), (h 6, .inr (10, [.ref (h 7), .int 0])), (qo, .inl (cO, 1, .inr (.inl fo)))] s.heap := hP
  have hl := lv_entry ([.ref (h 0), .int p0, .ref qo]) (n := 4) (Nat.le_of_ble_eq_true rfl)
  rw [lg_entry_eq]
  generalize (lg_sl ([.ref (h 0), .int p0, .ref qo]) ++ List.replicate (4 - (lg_sl ([.ref (h 0), .int p0, .ref qo])).length) Slot.unset).toArray = ls at hl ⊢
  have hl : lv_has ls 4 [(0, .ref (h 0)), (1, .int p0), (2, .ref qo)] := hl
  refine lv_aload_n hx hb dL_count_0 rfl (lv_at hl 2 rfl) ?_
  refine lv_iconst (v := 0) hx hb dL_count_1 (by decide) ?_
  refine lv_aload_n hx hb dL_count_2 rfl (lv_at hl 0 rfl) ?_
  refine lv_iload_n hx hb dL_count_3 rfl (lv_at hl 1 rfl) ?_
  have hPc := hP.sub (ws' := [(h 0, .inr (12, [.ref (h 1), .ref (h 2), .ref (h 3), .ref (h 4), .ref (h 5), .ref (h 6), .ref (h 8), .ref (h 12), .ref (h 11), .int 0, .int 0, .int (-1), .long 0, .long 0])), (h 1, .inr (0, [.int 0, .ref e0, .int 0])), (h 2, .inr (0, [.int 0, .ref e0, .int 0])), (h 3, .inr (0, [.int 0, .ref e0, .int 0])), (h 4, .inr (0, [.int 0, .ref e0, .int 0])), (h 5, .inr (0, [.int 0, .ref e0, .int 0])), (h 6, .inr (10, [.ref (h 7), .int 0]))]) [0, 1, 2, 3, 4, 5, 6] rfl
  have hDc := hD.sub (ws' := [(h 0, .inr (12, [.ref (h 1), .ref (h 2), .ref (h 3), .ref (h 4), .ref (h 5), .ref (h 6), .ref (h 8), .ref (h 12), .ref (h 11), .int 0, .int 0, .int (-1), .long 0, .long 0])), (h 1, .inr (0, [.int 0, .ref e0, .int 0])), (h 2, .inr (0, [.int 0, .ref e0, .int 0])), (h 3, .inr (0, [.int 0, .ref e0, .int 0])), (h 4, .inr (0, [.int 0, .ref e0, .int 0])), (h 5, .inr (0, [.int 0, .ref e0, .int 0])), (h 6, .inr (10, [.ref (h 7), .int 0]))]) [0, 1, 2, 3, 4, 5, 6] (by decide) rfl
  have hKc := hK.sub (tys' := []) [] rfl
  have hFc := va_free (wc := [(h 0, .inr (12, [.ref (h 1), .ref (h 2), .ref (h 3), .ref (h 4), .ref (h 5), .ref (h 6), .ref (h 8), .ref (h 12), .ref (h 11), .int 0, .int 0, .int (-1), .long 0, .long 0])), (h 1, .inr (0, [.int 0, .ref e0, .int 0])), (h 2, .inr (0, [.int 0, .ref e0, .int 0])), (h 3, .inr (0, [.int 0, .ref e0, .int 0])), (h 4, .inr (0, [.int 0, .ref e0, .int 0])), (h 5, .inr (0, [.int 0, .ref e0, .int 0])), (h 6, .inr (10, [.ref (h 7), .int 0]))]) hD hS hA [0, 1, 2, 3, 4, 5, 6] rfl
  refine vx_calli (vx_runV (As := [.int p0]) (rest := [.int 0, .ref qo]) ⟨hx, hb, hml, hown, hts⟩ (c_X11_count l hlt e0 dC dI s.heap.size h p0) (cwV 1 hts gL_count_X11_count rfl rfl rfl (by decide +kernel) ⟨Nat.le_of_ble_eq_true rfl, Nat.le_of_ble_eq_true rfl⟩) (pz_preV [.int p0] hPc hDc hKc hZ hV hT hS hFc (va_recv hKc hPc (ci := 12) (q0 := 0) rfl rfl)) rfl rfl hl.1 rfl (lv_room (Nat.le_of_ble_eq_true rfl)) dL_count_4 ⟨Nat.le_of_ble_eq_true rfl, Nat.le_of_ble_eq_true rfl⟩) hS (fun q _ h => hFc q h) hFc (fun q _ h => hFc q h) (fun E ce qx_5 u_2 t H locs ht hvm hpx hE hz1 hk1 hS hce hcv hcl => ?_) (fun r_1 u_2 t H locs ht hvm hw_3 hB_4 hz1 hk1 hS => ?_)
  ·
    obtain ⟨hP, hD⟩ := pz_rest (wr := [(qo, .inl (cO, 1, .inr (.inl fo)))]) hP hD [0, 1, 2, 3, 4, 5, 6] [7] rfl rfl (by decide) (by decide) hk1 hFc
    subst hE
    refine pq_catch hown _ htab (by decide) (by decide) (hts (.classLink RL 13 pz_N) (by decide +kernel)) (va_any rfl hV.2.2.2.1.2.2.2.1) hce hcv hcl ?_
    refine W.eq (g2 := F0 m 12 ls [.ref qx_5]) rfl ?_
    refine lv_astore_n (lv' := [(3, .ref qx_5), (0, .ref (h 0)), (1, .int p0), (2, .ref qo)]) hx hb dL_count_12 rfl hl (by decide) rfl (fun ls hl => ?_)
    refine lv_iconst (v := 1) hx hb dL_count_13 (by decide) ?_
    refine W.widen (k := 1) (n := 6) (Nat.le_of_ble_eq_true rfl) (Nat.le_of_ble_eq_true rfl) ?_
    refine vx_ret ?_
    have hP9 := hP.sub (ws' := [(qo, .inl (cO, 1, .inr (.inl fo)))]) [0] rfl
    have hD9 := hD.sub (ws' := [(qo, .inl (cO, 1, .inr (.inl fo)))]) [0] (by decide) rfl
    exact W.iret (v := 1) hx hb hr (fun t ht hW => ⟨⟨1, fo, rfl, Or.inl ⟨hpx, rfl⟩, ⟨(by rw [ht]; exact hP9), hD9⟩⟩, hS.F ht⟩) hS.2.2 dL_count_14
  ·
    obtain ⟨hP, hD⟩ := pz_rest (wr := [(qo, .inl (cO, 1, .inr (.inl fo)))]) hP hD [0, 1, 2, 3, 4, 5, 6] [7] rfl rfl (by decide) (by decide) hk1 hFc
    obtain ⟨rfl, hok⟩ := hw_3
    refine lv_i2l (v := 0) hx hb dL_count_7 (by decide) ?_
    refine va_last hx hb hK hP hD hS 0 0 rfl rfl (pz_inK (by decide)) dL_count_8 (fun H locs hP hD hS => ?_)
    have hP : va_P (dC, dI) vwCl [(qo, .inl (cO, 1, .inr (.inl (vp_updL fo (Int32.toNatClampNeg 0) 0))))] H := hP
    have hD : va_D A [(qo, .inl (cO, 1, .inr (.inl (vp_updL fo (Int32.toNatClampNeg 0) 0))))] := hD
    refine lv_goto (tgt := 15) hx hb dL_count_9 (by decide) ?_
    refine lv_iconst (v := 0) hx hb dL_count_15 (by decide) ?_
    refine W.widen (k := 1) (n := 6) (Nat.le_of_ble_eq_true rfl) (Nat.le_of_ble_eq_true rfl) ?_
    refine vx_ret ?_
    have hP9 := hP.sub (ws' := [(qo, .inl (cO, 1, .inr (.inl (vp_updL fo (Int32.toNatClampNeg 0) 0))))]) [0] rfl
    have hD9 := hD.sub (ws' := [(qo, .inl (cO, 1, .inr (.inl (vp_updL fo (Int32.toNatClampNeg 0) 0))))]) [0] (by decide) rfl
    exact W.iret (v := 0) hx hb hr (fun t ht hW => ⟨⟨0, vp_updL fo (Int32.toNatClampNeg 0) 0, rfl, Or.inr ⟨(hok), rfl, rfl⟩, ⟨(by rw [ht]; exact hP9), hD9⟩⟩, hS.F ht⟩) hS.2.2 dL_count_16
set_option maxHeartbeats 8000000 in
set_option maxRecDepth 100000 in
/-- the wrapper of hours -/
theorem c_L_hours (l : Launch) (hlt : l.stackTraces = false) (e0 : Nat) (dC : Nat → ClassId) (dI : Nat → Nat → Nat) (sz : Nat) (h : Nat → Nat) (qo : Nat) (cO : ClassId) (fo : Nat → Int64) (p0 : Int32) : vx_Met l yL_hours wsL_hours ({ frames := 7, cells := 1, slots := 6, locals := 104 }) (va_Pc [.ref (h 0), .int p0, .ref qo] (pz_P e0 (dC, dI) [(cO, .long)] [(h 0, .inr (12, [.ref (h 1), .ref (h 2), .ref (h 3), .ref (h 4), .ref (h 5), .ref (h 6), .ref (h 8), .ref (h 12), .ref (h 11), .int 0, .int 0, .int (-1), .long 0, .long 0])), (h 1, .inr (0, [.int 0, .ref e0, .int 0])), (h 4, .inr (0, [.int 0, .ref e0, .int 0])), (qo, .inl (cO, 1, .inr (.inl fo)))] sz)) (va_Qi (S := Nat → Int64) (fun (r : Int32) (u : Nat → Int64) => ((¬ ((0 ≤ p0 ∧ p0 ≤ 200))) ∧ r = 1) ∨ (¬ (¬ ((0 ≤ p0 ∧ p0 ≤ 200))) ∧ r = 0 ∧ u (Int32.toNatClampNeg 0) = p0.toInt64)) (fun u t => va_P (dC, dI) vwCl [(qo, .inl (cO, 1, .inr (.inl u)))] t.heap ∧ va_D (va_A [(h 0, .inr (12, [.ref (h 1), .ref (h 2), .ref (h 3), .ref (h 4), .ref (h 5), .ref (h 6), .ref (h 8), .ref (h 12), .ref (h 11), .int 0, .int 0, .int (-1), .long 0, .long 0])), (h 1, .inr (0, [.int 0, .ref e0, .int 0])), (h 4, .inr (0, [.int 0, .ref e0, .int 0])), (qo, .inl (cO, 1, .inr (.inl fo)))] sz) [(qo, .inl (cO, 1, .inr (.inl u)))]) (va_A [(h 0, .inr (12, [.ref (h 1), .ref (h 2), .ref (h 3), .ref (h 4), .ref (h 5), .ref (h 6), .ref (h 8), .ref (h 12), .ref (h 11), .int 0, .int 0, .int (-1), .long 0, .long 0])), (h 1, .inr (0, [.int 0, .ref e0, .int 0])), (h 4, .inr (0, [.int 0, .ref e0, .int 0])), (qo, .inl (cO, 1, .inr (.inl fo)))] sz)) (pz_X pz_N False (va_A [(h 0, .inr (12, [.ref (h 1), .ref (h 2), .ref (h 3), .ref (h 4), .ref (h 5), .ref (h 6), .ref (h 8), .ref (h 12), .ref (h 11), .int 0, .int 0, .int (-1), .long 0, .long 0])), (h 1, .inr (0, [.int 0, .ref e0, .int 0])), (h 4, .inr (0, [.int 0, .ref e0, .int 0])), (qo, .inl (cO, 1, .inr (.inl fo)))] sz)) 1 6 (va_A [(h 0, .inr (12, [.ref (h 1), .ref (h 2), .ref (h 3), .ref (h 4), .ref (h 5), .ref (h 6), .ref (h 8), .ref (h 12), .ref (h 11), .int 0, .int 0, .int (-1), .long 0, .long 0])), (h 1, .inr (0, [.int 0, .ref e0, .int 0])), (h 4, .inr (0, [.int 0, .ref e0, .int 0])), (qo, .inl (cO, 1, .inr (.inl fo)))] sz) := by
  refine vx_ofWH (cc := cL_hours) (maxL := 4) (ret := (some .int)) (hh := [(0, 9, 12, 36)]) (by decide) rfl ?_
  intro p e s m args below meth c s₁ B hml hv
  obtain ⟨rfl, hsz, hP, hK, hD0, hZ, hV, hT⟩ := hv
  have hx := B.exec
  have hb := B.bytes
  have hr := B.returns
  have hts := atoms_spec (ws := wsL_hours) B.pre
  have hown : s.vm.findClass RL = some m.cls := findClass_of_methodNamed B.named
  have hlocks := B.notSynchronized
  have htab := vx_table (x := yL_hours) B (hts _ List.mem_cons_self)
  subst hsz
  have hD := hD0.self (sz := s.heap.size)
  generalize hAe : va_A [(h 0, .inr (12, [.ref (h 1), .ref (h 2), .ref (h 3), .ref (h 4), .ref (h 5), .ref (h 6), .ref (h 8), .ref (h 12), .ref (h 11), .int 0, .int 0, .int (-1), .long 0, .long 0])), (h 1, .inr (0, [.int 0, .ref e0, .int 0])), (h 4, .inr (0, [.int 0, .ref e0, .int 0])), (qo, .inl (cO, 1, .inr (.inl fo)))] s.heap.size = A at hD hZ hT ⊢
  have hA : ∀ q : Nat, s.heap.size ≤ q → A q := fun q h => by rw [← hAe]; exact Or.inr h
  have hS : va_S A s.heap s.heap [] := va_S.rf
  have hP : va_P (dC, dI) vwCl [(h 0, .inr (12, [.ref (h 1), .ref (h 2), .ref (h 3), .ref (h 4), .ref (h 5), .ref (h 6), .ref (h 8), .ref (h 12), .ref (h 11), .int 0, .int 0, .int (-1), .long 0, .long 0])), (h 1, .inr (0, [.int 0, .ref e0, .int 0])), (h 4, .inr (0, [.int 0, .ref e0, .int 0])), (qo, .inl (cO, 1, .inr (.inl fo)))] s.heap := hP
  have hl := lv_entry ([.ref (h 0), .int p0, .ref qo]) (n := 4) (Nat.le_of_ble_eq_true rfl)
  rw [lg_entry_eq]
  generalize (lg_sl ([.ref (h 0), .int p0, .ref qo]) ++ List.replicate (4 - (lg_sl ([.ref (h 0), .int p0, .ref qo])).length) Slot.unset).toArray = ls at hl ⊢
  have hl : lv_has ls 4 [(0, .ref (h 0)), (1, .int p0), (2, .ref qo)] := hl
  refine lv_aload_n hx hb dL_hours_0 rfl (lv_at hl 2 rfl) ?_
  refine lv_iconst (v := 0) hx hb dL_hours_1 (by decide) ?_
  refine lv_aload_n hx hb dL_hours_2 rfl (lv_at hl 0 rfl) ?_
  refine lv_iload_n hx hb dL_hours_3 rfl (lv_at hl 1 rfl) ?_
  have hPc := hP.sub (ws' := [(h 0, .inr (12, [.ref (h 1), .ref (h 2), .ref (h 3), .ref (h 4), .ref (h 5), .ref (h 6), .ref (h 8), .ref (h 12), .ref (h 11), .int 0, .int 0, .int (-1), .long 0, .long 0])), (h 1, .inr (0, [.int 0, .ref e0, .int 0])), (h 4, .inr (0, [.int 0, .ref e0, .int 0]))]) [0, 1, 2] rfl
  have hDc := hD.sub (ws' := [(h 0, .inr (12, [.ref (h 1), .ref (h 2), .ref (h 3), .ref (h 4), .ref (h 5), .ref (h 6), .ref (h 8), .ref (h 12), .ref (h 11), .int 0, .int 0, .int (-1), .long 0, .long 0])), (h 1, .inr (0, [.int 0, .ref e0, .int 0])), (h 4, .inr (0, [.int 0, .ref e0, .int 0]))]) [0, 1, 2] (by decide) rfl
  have hKc := hK.sub (tys' := []) [] rfl
  have hFc := va_free (wc := [(h 0, .inr (12, [.ref (h 1), .ref (h 2), .ref (h 3), .ref (h 4), .ref (h 5), .ref (h 6), .ref (h 8), .ref (h 12), .ref (h 11), .int 0, .int 0, .int (-1), .long 0, .long 0])), (h 1, .inr (0, [.int 0, .ref e0, .int 0])), (h 4, .inr (0, [.int 0, .ref e0, .int 0]))]) hD hS hA [0, 1, 2] rfl
  refine vx_calli (vx_runV (As := [.int p0]) (rest := [.int 0, .ref qo]) ⟨hx, hb, hml, hown, hts⟩ (c_X11_hours l hlt e0 dC dI s.heap.size h p0) (cwV 1 hts gL_hours_X11_hours rfl rfl rfl (by decide +kernel) ⟨Nat.le_of_ble_eq_true rfl, Nat.le_of_ble_eq_true rfl⟩) (pz_preV [.int p0] hPc hDc hKc hZ hV hT hS hFc (va_recv hKc hPc (ci := 12) (q0 := 0) rfl rfl)) rfl rfl hl.1 rfl (lv_room (Nat.le_of_ble_eq_true rfl)) dL_hours_4 ⟨Nat.le_of_ble_eq_true rfl, Nat.le_of_ble_eq_true rfl⟩) hS (fun q _ h => hFc q h) hFc (fun q _ h => hFc q h) (fun E ce qx_5 u_2 t H locs ht hvm hpx hE hz1 hk1 hS hce hcv hcl => ?_) (fun r_1 u_2 t H locs ht hvm hw_3 hB_4 hz1 hk1 hS => ?_)
  ·
    obtain ⟨hP, hD⟩ := pz_rest (wr := [(qo, .inl (cO, 1, .inr (.inl fo)))]) hP hD [0, 1, 2] [3] rfl rfl (by decide) (by decide) hk1 hFc
    subst hE
    refine pq_catch hown _ htab (by decide) (by decide) (hts (.classLink RL 36 pz_I) (by decide +kernel)) (va_any rfl hV.2.2.2.1.2.2.2.2) hce hcv hcl ?_
    refine W.eq (g2 := F0 m 12 ls [.ref qx_5]) rfl ?_
    refine lv_astore_n (lv' := [(3, .ref qx_5), (0, .ref (h 0)), (1, .int p0), (2, .ref qo)]) hx hb dL_hours_12 rfl hl (by decide) rfl (fun ls hl => ?_)
    refine lv_iconst (v := 1) hx hb dL_hours_13 (by decide) ?_
    refine W.widen (k := 1) (n := 6) (Nat.le_of_ble_eq_true rfl) (Nat.le_of_ble_eq_true rfl) ?_
    refine vx_ret ?_
    have hP9 := hP.sub (ws' := [(qo, .inl (cO, 1, .inr (.inl fo)))]) [0] rfl
    have hD9 := hD.sub (ws' := [(qo, .inl (cO, 1, .inr (.inl fo)))]) [0] (by decide) rfl
    exact W.iret (v := 1) hx hb hr (fun t ht hW => ⟨⟨1, fo, rfl, Or.inl ⟨hpx, rfl⟩, ⟨(by rw [ht]; exact hP9), hD9⟩⟩, hS.F ht⟩) hS.2.2 dL_hours_14
  ·
    obtain ⟨hP, hD⟩ := pz_rest (wr := [(qo, .inl (cO, 1, .inr (.inl fo)))]) hP hD [0, 1, 2] [3] rfl rfl (by decide) (by decide) hk1 hFc
    obtain ⟨hval, hok⟩ := hw_3
    have hval := hval.symm
    subst hval
    refine lv_i2l hx hb dL_hours_7 rfl ?_
    refine va_last hx hb hK hP hD hS 0 0 rfl rfl (pz_inK (by decide)) dL_hours_8 (fun H locs hP hD hS => ?_)
    have hP : va_P (dC, dI) vwCl [(qo, .inl (cO, 1, .inr (.inl (vp_updL fo (Int32.toNatClampNeg 0) p0.toInt64))))] H := hP
    have hD : va_D A [(qo, .inl (cO, 1, .inr (.inl (vp_updL fo (Int32.toNatClampNeg 0) p0.toInt64))))] := hD
    refine lv_goto (tgt := 15) hx hb dL_hours_9 (by decide) ?_
    refine lv_iconst (v := 0) hx hb dL_hours_15 (by decide) ?_
    refine W.widen (k := 1) (n := 6) (Nat.le_of_ble_eq_true rfl) (Nat.le_of_ble_eq_true rfl) ?_
    refine vx_ret ?_
    have hP9 := hP.sub (ws' := [(qo, .inl (cO, 1, .inr (.inl (vp_updL fo (Int32.toNatClampNeg 0) p0.toInt64))))]) [0] rfl
    have hD9 := hD.sub (ws' := [(qo, .inl (cO, 1, .inr (.inl (vp_updL fo (Int32.toNatClampNeg 0) p0.toInt64))))]) [0] (by decide) rfl
    exact W.iret (v := 0) hx hb hr (fun t ht hW => ⟨⟨0, vp_updL fo (Int32.toNatClampNeg 0) p0.toInt64, rfl, Or.inr ⟨(not_not_intro hok), rfl, rfl⟩, ⟨(by rw [ht]; exact hP9), hD9⟩⟩, hS.F ht⟩) hS.2.2 dL_hours_16
