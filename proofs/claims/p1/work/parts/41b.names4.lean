theorem wsL_law_x0 : ∀ w ∈ (vx_atS RX3 34 "java/lang/IllegalArgumentException" ["java/lang/RuntimeException", "java/lang/Exception"]).filter goodWord, w ∈ lw_tbl := by decide +kernel
theorem wsL_law_x1 : ∀ w ∈ (vx_atS RX3 45 "java/lang/IllegalStateException" ["java/lang/RuntimeException", "java/lang/Exception"]).filter goodWord, w ∈ lw_tbl := by decide +kernel
theorem wsL_law_x2 : ∀ w ∈ (vx_atS RX3 315 "java/lang/IndexOutOfBoundsException" ["java/lang/RuntimeException", "java/lang/Exception"]).filter goodWord, w ∈ lw_tbl := by decide +kernel
theorem wsL_law_in : ∀ w ∈ wsL_law, w ∈ lw_tbl := fun w h => (List.mem_append.mp h).elim (fun h => (List.mem_append.mp h).elim (fun h => (List.mem_append.mp h).elim (fun h => wsL_law_in0 w h) (fun h => wsL_law_x0 w h)) (fun h => wsL_law_x1 w h)) (fun h => wsL_law_x2 w h)
theorem inlX0 : ∀ w ∈ wsX00, w ∈ wsL_law := fun _ h => List.mem_append_left _ (List.mem_append_left _ (List.mem_append_left _ (List.mem_append_left _ (List.mem_append_left _ (List.mem_append_left _ (List.mem_append_left _ (List.mem_append_left _ (List.mem_append_left _ (List.mem_append_right _ h)))))))))
theorem inX0 : ∀ w ∈ wsX00, w ∈ lw_tbl := fun w h => wsL_law_in w (inlX0 w h)
theorem inlX1 : ∀ w ∈ wsX10, w ∈ wsL_law := fun _ h => List.mem_append_left _ (List.mem_append_left _ (List.mem_append_left _ (List.mem_append_left _ (List.mem_append_left _ (List.mem_append_left _ (List.mem_append_left _ (List.mem_append_left _ (List.mem_append_right _ h))))))))
theorem inX1 : ∀ w ∈ wsX10, w ∈ lw_tbl := fun w h => wsL_law_in w (inlX1 w h)
theorem inlX2 : ∀ w ∈ wsX20, w ∈ wsL_law := fun _ h => List.mem_append_left _ (List.mem_append_left _ (List.mem_append_left _ (List.mem_append_left _ (List.mem_append_left _ (List.mem_append_left _ (List.mem_append_left _ (List.mem_append_left _ (List.mem_append_left _ (List.mem_append_left _ (List.mem_append_right _ h))))))))))
theorem inX2 : ∀ w ∈ wsX20, w ∈ lw_tbl := fun w h => wsL_law_in w (inlX2 w h)
theorem inlX3 : ∀ w ∈ wsX30, w ∈ wsL_law := fun _ h => List.mem_append_left _ (List.mem_append_left _ (List.mem_append_left _ (List.mem_append_left _ (List.mem_append_left _ (List.mem_append_left _ (List.mem_append_left _ (List.mem_append_left _ (List.mem_append_left _ (List.mem_append_left _ (List.mem_append_left _ (List.mem_append_left _ (List.mem_append_right _ h))))))))))))
theorem inX3 : ∀ w ∈ wsX30, w ∈ lw_tbl := fun w h => wsL_law_in w (inlX3 w h)
theorem inlX4 : ∀ w ∈ wsX40, w ∈ wsL_law := fun _ h => List.mem_append_left _ (List.mem_append_left _ (List.mem_append_left _ (List.mem_append_left _ (List.mem_append_left _ (List.mem_append_right _ h)))))
theorem inX4 : ∀ w ∈ wsX40, w ∈ lw_tbl := fun w h => wsL_law_in w (inlX4 w h)
theorem inlX5 : ∀ w ∈ wsX50, w ∈ wsL_law := fun _ h => List.mem_append_left _ (List.mem_append_left _ (List.mem_append_left _ (List.mem_append_left _ (List.mem_append_left _ (List.mem_append_left _ (List.mem_append_left _ (List.mem_append_right _ h)))))))
theorem inX5 : ∀ w ∈ wsX50, w ∈ lw_tbl := fun w h => wsL_law_in w (inlX5 w h)
theorem inlX6 : ∀ w ∈ wsX60, w ∈ wsL_law := fun _ h => List.mem_append_left _ (List.mem_append_left _ (List.mem_append_left _ (List.mem_append_left _ (List.mem_append_left _ (List.mem_append_left _ (List.mem_append_left _ (List.mem_append_left _ (List.mem_append_left _ (List.mem_append_left _ (List.mem_append_left _ (List.mem_append_right _ h)))))))))))
theorem inX6 : ∀ w ∈ wsX60, w ∈ lw_tbl := fun w h => wsL_law_in w (inlX6 w h)
theorem inJx145de : ∀ w ∈ wsJx145de0, w ∈ lw_tbl := by decide +kernel
theorem inJx8e188 : ∀ w ∈ wsJx8e1880, w ∈ lw_tbl := by decide +kernel
theorem inJxab1ab : ∀ w ∈ wsJxab1ab0, w ∈ lw_tbl := by decide +kernel
theorem inJ9 : ∀ w ∈ wsJ90, w ∈ lw_tbl := by decide +kernel
theorem inJ0 : ∀ w ∈ wsJ00, w ∈ lw_tbl := by decide +kernel
theorem inJ10 : ∀ w ∈ wsJ100, w ∈ lw_tbl := by decide +kernel
theorem inJxa1e45 : ∀ w ∈ wsJxa1e450, w ∈ lw_tbl := by decide +kernel
theorem inJxc12de : ∀ w ∈ wsJxc12de0, w ∈ lw_tbl := by decide +kernel
theorem inlJx35411 : ∀ w ∈ wsJx354110, w ∈ wsL_law := fun _ h => List.mem_append_left _ (List.mem_append_left _ (List.mem_append_left _ (List.mem_append_left _ (List.mem_append_right _ h))))
theorem inJx35411 : ∀ w ∈ wsJx354110, w ∈ lw_tbl := fun w h => wsL_law_in w (inlJx35411 w h)
theorem inlJx4a65c : ∀ w ∈ wsJx4a65c0, w ∈ wsL_law := fun _ h => List.mem_append_left _ (List.mem_append_left _ (List.mem_append_left _ (List.mem_append_left _ (List.mem_append_left _ (List.mem_append_left _ (List.mem_append_right _ h))))))
theorem inJx4a65c : ∀ w ∈ wsJx4a65c0, w ∈ lw_tbl := fun w h => wsL_law_in w (inlJx4a65c w h)
theorem inJ7 : ∀ w ∈ wsJ70, w ∈ lw_tbl := by decide +kernel
theorem inJx5ef63 : ∀ w ∈ wsJx5ef630, w ∈ lw_tbl := by decide +kernel
theorem inJx4d0d8 : ∀ w ∈ wsJx4d0d80, w ∈ lw_tbl := by decide +kernel
theorem inJxbd725 : ∀ w ∈ wsJxbd7250, w ∈ lw_tbl := by decide +kernel
theorem inJ15 : ∀ w ∈ wsJ150, w ∈ lw_tbl := by decide +kernel
theorem inJxf0a74 : ∀ w ∈ wsJxf0a740, w ∈ lw_tbl := by decide +kernel
theorem inJxa66e6 : ∀ w ∈ wsJxa66e60, w ∈ lw_tbl := by decide +kernel
theorem inJ8 : ∀ w ∈ wsJ80, w ∈ lw_tbl := by decide +kernel
theorem inJ3 : ∀ w ∈ wsJ30, w ∈ lw_tbl := by decide +kernel
set_option maxRecDepth 20000 in
theorem ggL_area_X3_area : GoodIn wsL_area wsX3_area := goodIn_ca (goodIn_ca (goodIn_ca (goodIn_r _ [8, 9, 10, 11, 12, 13, 14, 15, 16, 17, 18, 19, 7, 20, 21, 22, 23, 24, 25, 26, 27, 28, 29, 30, 31, 32, 33, 34, 35, 36, 37, 38, 39, 40, 41, 42, 43, 44, 45, 46, 47, 48, 49] (by decide +kernel) (by decide +kernel)) (goodIn_sub (fun _ h => List.mem_cons_of_mem _ (List.mem_append_left _ (List.mem_append_left _ (List.mem_append_right _ h)))) (by decide +kernel))) (goodIn_sub (fun _ h => List.mem_cons_of_mem _ (List.mem_append_left _ (List.mem_append_right _ h))) (by decide +kernel))) (goodIn_sub (fun _ h => List.mem_cons_of_mem _ (List.mem_append_right _ h)) (by decide +kernel))
set_option maxRecDepth 20000 in
theorem gL_area_X3_area : GoodIn wsL_area (wsV RL 7 RX3 yX3_area wsX3_area) := goodIn_app (goodIn_of _ (by decide +kernel)) ggL_area_X3_area
theorem dL_area_0 : decode cL_area 0 = .ok (.aload_n 3, 1) := by decide +kernel
theorem dL_area_1 : decode cL_area 1 = .ok (.iconst 0, 1) := by decide +kernel
theorem dL_area_2 : decode cL_area 2 = .ok (.aload_n 0, 1) := by decide +kernel
theorem dL_area_3 : decode cL_area 3 = .ok (.iload_n 1, 1) := by decide +kernel
theorem dL_area_4 : decode cL_area 4 = .ok (.iload_n 2, 1) := by decide +kernel
theorem dL_area_5 : decode cL_area 5 = .ok (.invokevirtual 7, 3) := by decide +kernel
theorem dL_area_8 : decode cL_area 8 = .ok (.i2l, 1) := by decide +kernel
theorem dL_area_9 : decode cL_area 9 = .ok (.lastore, 1) := by decide +kernel
theorem dL_area_10 : decode cL_area 10 = .ok (.goto 15, 3) := by decide +kernel
theorem dL_area_13 : decode cL_area 13 = .ok (.astore 4, 2) := by decide +kernel
theorem dL_area_15 : decode cL_area 15 = .ok (.iconst 1, 1) := by decide +kernel
theorem dL_area_16 : decode cL_area 16 = .ok (.ireturn, 1) := by decide +kernel
theorem dL_area_17 : decode cL_area 17 = .ok (.astore 4, 2) := by decide +kernel
theorem dL_area_19 : decode cL_area 19 = .ok (.iconst 2, 1) := by decide +kernel
theorem dL_area_20 : decode cL_area 20 = .ok (.ireturn, 1) := by decide +kernel
theorem dL_area_21 : decode cL_area 21 = .ok (.astore 4, 2) := by decide +kernel
theorem dL_area_23 : decode cL_area 23 = .ok (.iconst 3, 1) := by decide +kernel
theorem dL_area_24 : decode cL_area 24 = .ok (.ireturn, 1) := by decide +kernel
theorem dL_area_25 : decode cL_area 25 = .ok (.iconst 0, 1) := by decide +kernel
theorem dL_area_26 : decode cL_area 26 = .ok (.ireturn, 1) := by decide +kernel
set_option maxRecDepth 20000 in
theorem ggL_gate_X3_gate : GoodIn wsL_gate wsX3_gate := goodIn_ca (goodIn_r _ [6, 7, 8, 9, 10, 11, 12, 5, 13, 14, 15, 16, 17, 18, 19, 20, 21, 22, 23, 24, 25, 26, 27, 28, 29, 30, 31, 32, 33, 34, 35, 36, 37, 38, 39, 40, 41, 42] (by decide +kernel) (by decide +kernel)) (goodIn_sub (fun _ h => List.mem_cons_of_mem _ (List.mem_append_right _ h)) (by decide +kernel))
set_option maxRecDepth 20000 in
theorem gL_gate_X3_gate : GoodIn wsL_gate (wsV RL 19 RX3 yX3_gate wsX3_gate) := goodIn_app (goodIn_of _ (by decide +kernel)) ggL_gate_X3_gate
theorem dL_gate_0 : decode cL_gate 0 = .ok (.aload_n 3, 1) := by decide +kernel
theorem dL_gate_1 : decode cL_gate 1 = .ok (.iconst 0, 1) := by decide +kernel
theorem dL_gate_2 : decode cL_gate 2 = .ok (.aload_n 0, 1) := by decide +kernel
theorem dL_gate_3 : decode cL_gate 3 = .ok (.iload_n 1, 1) := by decide +kernel
theorem dL_gate_4 : decode cL_gate 4 = .ok (.iload_n 2, 1) := by decide +kernel
theorem dL_gate_5 : decode cL_gate 5 = .ok (.invokevirtual 19, 3) := by decide +kernel
theorem dL_gate_8 : decode cL_gate 8 = .ok (.ifCond .eq 7, 3) := by decide +kernel
theorem dL_gate_11 : decode cL_gate 11 = .ok (.lconst 1, 1) := by decide +kernel
theorem dL_gate_12 : decode cL_gate 12 = .ok (.goto 4, 3) := by decide +kernel
theorem dL_gate_15 : decode cL_gate 15 = .ok (.lconst 0, 1) := by decide +kernel
theorem dL_gate_16 : decode cL_gate 16 = .ok (.lastore, 1) := by decide +kernel
theorem dL_gate_17 : decode cL_gate 17 = .ok (.goto 7, 3) := by decide +kernel
theorem dL_gate_20 : decode cL_gate 20 = .ok (.astore 4, 2) := by decide +kernel
theorem dL_gate_22 : decode cL_gate 22 = .ok (.iconst 1, 1) := by decide +kernel
theorem dL_gate_23 : decode cL_gate 23 = .ok (.ireturn, 1) := by decide +kernel
theorem dL_gate_24 : decode cL_gate 24 = .ok (.iconst 0, 1) := by decide +kernel
theorem dL_gate_25 : decode cL_gate 25 = .ok (.ireturn, 1) := by decide +kernel
set_option maxRecDepth 20000 in
theorem ggL_cover_X3_cover : GoodIn wsL_cover wsX3_cover := goodIn_ca (goodIn_r _ [6, 7, 8, 9, 10, 11, 12, 5, 13, 14, 15, 16, 17, 18, 19, 20, 21, 22, 23, 24, 25, 26, 27, 28, 29, 30, 31, 32, 33, 34, 35, 36, 37, 38, 39, 40, 41, 42] (by decide +kernel) (by decide +kernel)) (goodIn_sub (fun _ h => List.mem_cons_of_mem _ (List.mem_append_right _ h)) (by decide +kernel))
set_option maxRecDepth 20000 in
theorem gL_cover_X3_cover : GoodIn wsL_cover (wsV RL 23 RX3 yX3_cover wsX3_cover) := goodIn_app (goodIn_of _ (by decide +kernel)) ggL_cover_X3_cover
theorem dL_cover_0 : decode cL_cover 0 = .ok (.aload_n 3, 1) := by decide +kernel
theorem dL_cover_1 : decode cL_cover 1 = .ok (.iconst 0, 1) := by decide +kernel
theorem dL_cover_2 : decode cL_cover 2 = .ok (.aload_n 0, 1) := by decide +kernel
theorem dL_cover_3 : decode cL_cover 3 = .ok (.iload_n 1, 1) := by decide +kernel
theorem dL_cover_4 : decode cL_cover 4 = .ok (.iload_n 2, 1) := by decide +kernel
theorem dL_cover_5 : decode cL_cover 5 = .ok (.invokevirtual 23, 3) := by decide +kernel
theorem dL_cover_8 : decode cL_cover 8 = .ok (.ifCond .eq 7, 3) := by decide +kernel
theorem dL_cover_11 : decode cL_cover 11 = .ok (.lconst 1, 1) := by decide +kernel
theorem dL_cover_12 : decode cL_cover 12 = .ok (.goto 4, 3) := by decide +kernel
theorem dL_cover_15 : decode cL_cover 15 = .ok (.lconst 0, 1) := by decide +kernel
theorem dL_cover_16 : decode cL_cover 16 = .ok (.lastore, 1) := by decide +kernel
theorem dL_cover_17 : decode cL_cover 17 = .ok (.goto 7, 3) := by decide +kernel
theorem dL_cover_20 : decode cL_cover 20 = .ok (.astore 4, 2) := by decide +kernel
theorem dL_cover_22 : decode cL_cover 22 = .ok (.iconst 1, 1) := by decide +kernel
theorem dL_cover_23 : decode cL_cover 23 = .ok (.ireturn, 1) := by decide +kernel
theorem dL_cover_24 : decode cL_cover 24 = .ok (.iconst 0, 1) := by decide +kernel
theorem dL_cover_25 : decode cL_cover 25 = .ok (.ireturn, 1) := by decide +kernel
set_option maxRecDepth 20000 in
theorem ggL_pass_X3_pass : GoodIn wsL_pass wsX3_pass := goodIn_ca (goodIn_ca (goodIn_r _ [7, 8, 9, 10, 11, 12, 13, 14, 15, 16, 6, 17, 18, 19, 20, 21, 22, 23, 24, 25, 26, 27, 28, 29, 30, 31, 32, 33, 34, 35, 36, 37, 38, 39, 40, 41, 42, 43, 44, 45, 46, 47, 48, 49, 50, 51, 52, 53, 54, 55, 56, 57, 58, 59, 60, 61, 62, 63, 64, 65, 66, 67, 68, 69, 70, 71, 72, 73, 74, 75, 76, 77, 78, 79, 80, 81, 82, 83, 84, 85, 86, 87, 88, 89, 90, 91, 92, 93, 94, 95, 96, 97, 98, 99, 100, 101, 102, 103, 104, 105, 106, 107, 108, 109, 110, 111, 112, 113, 114, 115, 116, 117, 118, 119, 120, 121, 122, 123, 124, 125, 126, 127, 128, 129, 130, 131, 132, 133, 134, 135, 136, 137] (by decide +kernel) (by decide +kernel)) (goodIn_sub (fun _ h => List.mem_cons_of_mem _ (List.mem_append_left _ (List.mem_append_right _ h))) (by decide +kernel))) (goodIn_sub (fun _ h => List.mem_cons_of_mem _ (List.mem_append_right _ h)) (by decide +kernel))
set_option maxRecDepth 20000 in
theorem gL_pass_X3_pass : GoodIn wsL_pass (wsV RL 26 RX3 yX3_pass wsX3_pass) := goodIn_app (goodIn_of _ (by decide +kernel)) ggL_pass_X3_pass
theorem dL_pass_0 : decode cL_pass 0 = .ok (.aload 5, 2) := by decide +kernel
theorem dL_pass_2 : decode cL_pass 2 = .ok (.iconst 0, 1) := by decide +kernel
theorem dL_pass_3 : decode cL_pass 3 = .ok (.aload_n 0, 1) := by decide +kernel
theorem dL_pass_4 : decode cL_pass 4 = .ok (.iload_n 1, 1) := by decide +kernel
theorem dL_pass_5 : decode cL_pass 5 = .ok (.iload_n 2, 1) := by decide +kernel
theorem dL_pass_6 : decode cL_pass 6 = .ok (.iload_n 3, 1) := by decide +kernel
theorem dL_pass_7 : decode cL_pass 7 = .ok (.iload 4, 2) := by decide +kernel
theorem dL_pass_9 : decode cL_pass 9 = .ok (.invokevirtual 26, 3) := by decide +kernel
theorem dL_pass_12 : decode cL_pass 12 = .ok (.i2l, 1) := by decide +kernel
theorem dL_pass_13 : decode cL_pass 13 = .ok (.lastore, 1) := by decide +kernel
theorem dL_pass_14 : decode cL_pass 14 = .ok (.goto 11, 3) := by decide +kernel
theorem dL_pass_17 : decode cL_pass 17 = .ok (.astore 6, 2) := by decide +kernel
theorem dL_pass_19 : decode cL_pass 19 = .ok (.iconst 1, 1) := by decide +kernel
theorem dL_pass_20 : decode cL_pass 20 = .ok (.ireturn, 1) := by decide +kernel
theorem dL_pass_21 : decode cL_pass 21 = .ok (.astore 6, 2) := by decide +kernel
theorem dL_pass_23 : decode cL_pass 23 = .ok (.iconst 2, 1) := by decide +kernel
theorem dL_pass_24 : decode cL_pass 24 = .ok (.ireturn, 1) := by decide +kernel
theorem dL_pass_25 : decode cL_pass 25 = .ok (.iconst 0, 1) := by decide +kernel
theorem dL_pass_26 : decode cL_pass 26 = .ok (.ireturn, 1) := by decide +kernel
set_option maxRecDepth 20000 in
theorem ggL_skim_X3_skim : GoodIn wsL_skim wsX3_skim := goodIn_ca (goodIn_r _ [6, 7, 8, 9, 10, 11, 12, 13, 5, 14, 15, 16, 17, 18, 19, 20, 21, 22, 23, 24, 25, 26, 27, 28, 29, 30, 31, 32, 33, 34, 35, 36, 37, 38, 39, 40, 41, 42, 43] (by decide +kernel) (by decide +kernel)) (goodIn_sub (fun _ h => List.mem_cons_of_mem _ (List.mem_append_right _ h)) (by decide +kernel))
set_option maxRecDepth 20000 in
theorem gL_skim_X3_skim : GoodIn wsL_skim (wsV RL 30 RX3 yX3_skim wsX3_skim) := goodIn_app (goodIn_of _ (by decide +kernel)) ggL_skim_X3_skim
theorem dL_skim_0 : decode cL_skim 0 = .ok (.aload_n 2, 1) := by decide +kernel
theorem dL_skim_1 : decode cL_skim 1 = .ok (.iconst 0, 1) := by decide +kernel
theorem dL_skim_2 : decode cL_skim 2 = .ok (.aload_n 0, 1) := by decide +kernel
theorem dL_skim_3 : decode cL_skim 3 = .ok (.iload_n 1, 1) := by decide +kernel
theorem dL_skim_4 : decode cL_skim 4 = .ok (.invokevirtual 30, 3) := by decide +kernel
theorem dL_skim_7 : decode cL_skim 7 = .ok (.i2l, 1) := by decide +kernel
theorem dL_skim_8 : decode cL_skim 8 = .ok (.lastore, 1) := by decide +kernel
theorem dL_skim_9 : decode cL_skim 9 = .ok (.goto 6, 3) := by decide +kernel
theorem dL_skim_12 : decode cL_skim 12 = .ok (.astore_n 3, 1) := by decide +kernel
theorem dL_skim_13 : decode cL_skim 13 = .ok (.iconst 1, 1) := by decide +kernel
theorem dL_skim_14 : decode cL_skim 14 = .ok (.ireturn, 1) := by decide +kernel
theorem dL_skim_15 : decode cL_skim 15 = .ok (.iconst 0, 1) := by decide +kernel
theorem dL_skim_16 : decode cL_skim 16 = .ok (.ireturn, 1) := by decide +kernel
set_option maxRecDepth 20000 in
theorem ggL_drain_X3_drain : GoodIn wsL_drain wsX3_drain := goodIn_ca (goodIn_ca (goodIn_r _ [7, 8, 9, 10, 11, 12, 13, 14, 15, 16, 17, 18, 6, 19, 20, 21, 22, 23, 24, 25, 26, 27, 28, 29, 30, 31, 32, 33, 34, 35, 36, 37, 38, 39, 40, 41, 42, 43, 44, 45, 46, 47, 48, 49, 50, 51, 52, 53, 54, 55, 56, 57, 58, 59, 60, 61, 62, 63, 64] (by decide +kernel) (by decide +kernel)) (goodIn_sub (fun _ h => List.mem_cons_of_mem _ (List.mem_append_left _ (List.mem_append_right _ h))) (by decide +kernel))) (goodIn_sub (fun _ h => List.mem_cons_of_mem _ (List.mem_append_right _ h)) (by decide +kernel))
set_option maxRecDepth 20000 in
theorem gL_drain_X3_drain : GoodIn wsL_drain (wsV RL 34 RX3 yX3_drain wsX3_drain) := goodIn_app (goodIn_of _ (by decide +kernel)) ggL_drain_X3_drain
theorem dL_drain_0 : decode cL_drain 0 = .ok (.aload_n 2, 1) := by decide +kernel
theorem dL_drain_1 : decode cL_drain 1 = .ok (.iconst 0, 1) := by decide +kernel
theorem dL_drain_2 : decode cL_drain 2 = .ok (.aload_n 0, 1) := by decide +kernel
theorem dL_drain_3 : decode cL_drain 3 = .ok (.iload_n 1, 1) := by decide +kernel
theorem dL_drain_4 : decode cL_drain 4 = .ok (.invokevirtual 34, 3) := by decide +kernel
theorem dL_drain_7 : decode cL_drain 7 = .ok (.i2l, 1) := by decide +kernel
theorem dL_drain_8 : decode cL_drain 8 = .ok (.lastore, 1) := by decide +kernel
theorem dL_drain_9 : decode cL_drain 9 = .ok (.goto 9, 3) := by decide +kernel
theorem dL_drain_12 : decode cL_drain 12 = .ok (.astore_n 3, 1) := by decide +kernel
theorem dL_drain_13 : decode cL_drain 13 = .ok (.iconst 1, 1) := by decide +kernel
theorem dL_drain_14 : decode cL_drain 14 = .ok (.ireturn, 1) := by decide +kernel
theorem dL_drain_15 : decode cL_drain 15 = .ok (.astore_n 3, 1) := by decide +kernel
theorem dL_drain_16 : decode cL_drain 16 = .ok (.iconst 2, 1) := by decide +kernel
theorem dL_drain_17 : decode cL_drain 17 = .ok (.ireturn, 1) := by decide +kernel
theorem dL_drain_18 : decode cL_drain 18 = .ok (.iconst 0, 1) := by decide +kernel
theorem dL_drain_19 : decode cL_drain 19 = .ok (.ireturn, 1) := by decide +kernel
set_option maxRecDepth 20000 in
theorem ggL_pump_X3_pump : GoodIn wsL_pump wsX3_pump := goodIn_ca (goodIn_ca (goodIn_ca (goodIn_r _ [8, 9, 10, 11, 12, 13, 14, 15, 16, 17, 18, 19, 7, 20, 21, 22, 23, 24, 25, 26, 27, 28, 29, 30, 31, 32, 33, 34, 35, 36, 37, 38, 39, 40, 41, 42, 43, 44, 45, 46, 47, 48, 49, 50, 51, 52, 53, 54, 55, 56, 57, 58, 59, 60, 61, 62, 63, 64, 65, 66, 67, 68, 69, 70, 71, 72, 73, 74, 75, 76] (by decide +kernel) (by decide +kernel)) (goodIn_sub (fun _ h => List.mem_cons_of_mem _ (List.mem_append_left _ (List.mem_append_left _ (List.mem_append_right _ h)))) (by decide +kernel))) (goodIn_sub (fun _ h => List.mem_cons_of_mem _ (List.mem_append_left _ (List.mem_append_right _ h))) (by decide +kernel))) (goodIn_sub (fun _ h => List.mem_cons_of_mem _ (List.mem_append_right _ h)) (by decide +kernel))
set_option maxRecDepth 20000 in
theorem gL_pump_X3_pump : GoodIn wsL_pump (wsV RL 37 RX3 yX3_pump wsX3_pump) := goodIn_app (goodIn_of _ (by decide +kernel)) ggL_pump_X3_pump
theorem dL_pump_0 : decode cL_pump 0 = .ok (.aload 4, 2) := by decide +kernel
theorem dL_pump_2 : decode cL_pump 2 = .ok (.iconst 0, 1) := by decide +kernel
theorem dL_pump_3 : decode cL_pump 3 = .ok (.aload_n 0, 1) := by decide +kernel
theorem dL_pump_4 : decode cL_pump 4 = .ok (.iload_n 1, 1) := by decide +kernel
theorem dL_pump_5 : decode cL_pump 5 = .ok (.iload_n 2, 1) := by decide +kernel
theorem dL_pump_6 : decode cL_pump 6 = .ok (.iload_n 3, 1) := by decide +kernel
theorem dL_pump_7 : decode cL_pump 7 = .ok (.invokevirtual 37, 3) := by decide +kernel
theorem dL_pump_10 : decode cL_pump 10 = .ok (.i2l, 1) := by decide +kernel
theorem dL_pump_11 : decode cL_pump 11 = .ok (.lastore, 1) := by decide +kernel
theorem dL_pump_12 : decode cL_pump 12 = .ok (.goto 15, 3) := by decide +kernel
theorem dL_pump_15 : decode cL_pump 15 = .ok (.astore 5, 2) := by decide +kernel
theorem dL_pump_17 : decode cL_pump 17 = .ok (.iconst 1, 1) := by decide +kernel
theorem dL_pump_18 : decode cL_pump 18 = .ok (.ireturn, 1) := by decide +kernel
theorem dL_pump_19 : decode cL_pump 19 = .ok (.astore 5, 2) := by decide +kernel
theorem dL_pump_21 : decode cL_pump 21 = .ok (.iconst 2, 1) := by decide +kernel
theorem dL_pump_22 : decode cL_pump 22 = .ok (.ireturn, 1) := by decide +kernel
theorem dL_pump_23 : decode cL_pump 23 = .ok (.astore 5, 2) := by decide +kernel
theorem dL_pump_25 : decode cL_pump 25 = .ok (.iconst 3, 1) := by decide +kernel
theorem dL_pump_26 : decode cL_pump 26 = .ok (.ireturn, 1) := by decide +kernel
theorem dL_pump_27 : decode cL_pump 27 = .ok (.iconst 0, 1) := by decide +kernel
theorem dL_pump_28 : decode cL_pump 28 = .ok (.ireturn, 1) := by decide +kernel
set_option maxRecDepth 20000 in
theorem ggL_family_X3_family : GoodIn wsL_family wsX3_family := goodIn_ca (goodIn_r _ [6, 7, 8, 9, 10, 11, 12, 13, 14, 15, 16, 17, 18, 19] (by decide +kernel) (by decide +kernel)) (goodIn_sub (fun _ h => List.mem_cons_of_mem _ (List.mem_append_right _ h)) (by decide +kernel))
set_option maxRecDepth 20000 in
theorem gL_family_X3_family : GoodIn wsL_family (wsV RL 41 RX3 yX3_family wsX3_family) := goodIn_app (goodIn_of _ (by decide +kernel)) ggL_family_X3_family
theorem dL_family_0 : decode cL_family 0 = .ok (.aload_n 1, 1) := by decide +kernel
theorem dL_family_1 : decode cL_family 1 = .ok (.iconst 0, 1) := by decide +kernel
theorem dL_family_2 : decode cL_family 2 = .ok (.aload_n 0, 1) := by decide +kernel
theorem dL_family_3 : decode cL_family 3 = .ok (.invokevirtual 41, 3) := by decide +kernel
theorem dL_family_6 : decode cL_family 6 = .ok (.i2l, 1) := by decide +kernel
theorem dL_family_7 : decode cL_family 7 = .ok (.lastore, 1) := by decide +kernel
theorem dL_family_8 : decode cL_family 8 = .ok (.goto 6, 3) := by decide +kernel
theorem dL_family_11 : decode cL_family 11 = .ok (.astore_n 2, 1) := by decide +kernel
theorem dL_family_12 : decode cL_family 12 = .ok (.iconst 1, 1) := by decide +kernel
theorem dL_family_13 : decode cL_family 13 = .ok (.ireturn, 1) := by decide +kernel
theorem dL_family_14 : decode cL_family 14 = .ok (.iconst 0, 1) := by decide +kernel
theorem dL_family_15 : decode cL_family 15 = .ok (.ireturn, 1) := by decide +kernel
set_option maxRecDepth 20000 in
theorem ggL_right_X3_right : GoodIn wsL_right wsX3_right := goodIn_ca (goodIn_ca (goodIn_ca (goodIn_r _ [8, 9, 10, 11, 12, 13, 14, 15, 16, 17, 7, 18, 19, 20, 21, 22, 23, 24, 25, 26, 27, 28, 29, 30, 31, 32, 33, 34, 35, 36, 37, 38, 39, 40, 41, 42, 43, 44, 45] (by decide +kernel) (by decide +kernel)) (goodIn_sub (fun _ h => List.mem_cons_of_mem _ (List.mem_append_left _ (List.mem_append_left _ (List.mem_append_right _ h)))) (by decide +kernel))) (goodIn_sub (fun _ h => List.mem_cons_of_mem _ (List.mem_append_left _ (List.mem_append_right _ h))) (by decide +kernel))) (goodIn_sub (fun _ h => List.mem_cons_of_mem _ (List.mem_append_right _ h)) (by decide +kernel))
set_option maxRecDepth 20000 in
theorem gL_right_X3_right : GoodIn wsL_right (wsV RL 45 RX3 yX3_right wsX3_right) := goodIn_app (goodIn_of _ (by decide +kernel)) ggL_right_X3_right
theorem dL_right_0 : decode cL_right 0 = .ok (.aload 4, 2) := by decide +kernel
theorem dL_right_2 : decode cL_right 2 = .ok (.iconst 0, 1) := by decide +kernel
theorem dL_right_3 : decode cL_right 3 = .ok (.aload_n 0, 1) := by decide +kernel
theorem dL_right_4 : decode cL_right 4 = .ok (.iload_n 1, 1) := by decide +kernel
theorem dL_right_5 : decode cL_right 5 = .ok (.iload_n 2, 1) := by decide +kernel
theorem dL_right_6 : decode cL_right 6 = .ok (.iload_n 3, 1) := by decide +kernel
theorem dL_right_7 : decode cL_right 7 = .ok (.invokevirtual 45, 3) := by decide +kernel
theorem dL_right_10 : decode cL_right 10 = .ok (.i2l, 1) := by decide +kernel
theorem dL_right_11 : decode cL_right 11 = .ok (.lastore, 1) := by decide +kernel
theorem dL_right_12 : decode cL_right 12 = .ok (.goto 15, 3) := by decide +kernel
theorem dL_right_15 : decode cL_right 15 = .ok (.astore 5, 2) := by decide +kernel
theorem dL_right_17 : decode cL_right 17 = .ok (.iconst 1, 1) := by decide +kernel
theorem dL_right_18 : decode cL_right 18 = .ok (.ireturn, 1) := by decide +kernel
theorem dL_right_19 : decode cL_right 19 = .ok (.astore 5, 2) := by decide +kernel
theorem dL_right_21 : decode cL_right 21 = .ok (.iconst 2, 1) := by decide +kernel
theorem dL_right_22 : decode cL_right 22 = .ok (.ireturn, 1) := by decide +kernel
theorem dL_right_23 : decode cL_right 23 = .ok (.astore 5, 2) := by decide +kernel
theorem dL_right_25 : decode cL_right 25 = .ok (.iconst 3, 1) := by decide +kernel
theorem dL_right_26 : decode cL_right 26 = .ok (.ireturn, 1) := by decide +kernel
theorem dL_right_27 : decode cL_right 27 = .ok (.iconst 0, 1) := by decide +kernel
theorem dL_right_28 : decode cL_right 28 = .ok (.ireturn, 1) := by decide +kernel
set_option maxRecDepth 20000 in
theorem ggL_harvest_X3_harvest : GoodIn wsL_harvest wsX3_harvest := goodIn_ca (goodIn_ca (goodIn_r _ [7, 8, 9, 10, 11, 12, 13, 14, 15, 16, 17, 18, 6, 19, 20, 21, 22, 23, 24, 25, 26, 27, 28, 29, 30, 31, 32, 33, 34, 35, 36, 37, 38, 39, 40, 41, 42, 43, 44, 45, 46, 47, 48, 49, 50, 51, 52, 53, 54, 55, 56, 57, 58, 59, 60, 61, 62, 63, 64, 65, 66, 67, 68, 69, 70, 71, 72, 73, 74, 75, 76, 77, 78, 79, 80, 81, 82, 83, 84, 85, 86, 87, 88, 89, 90, 91, 92, 93, 94, 95, 96, 97, 98, 99, 100, 101, 102, 103] (by decide +kernel) (by decide +kernel)) (goodIn_sub (fun _ h => List.mem_cons_of_mem _ (List.mem_append_left _ (List.mem_append_right _ h))) (by decide +kernel))) (goodIn_sub (fun _ h => List.mem_cons_of_mem _ (List.mem_append_right _ h)) (by decide +kernel))
set_option maxRecDepth 20000 in
theorem gL_harvest_X3_harvest : GoodIn wsL_harvest (wsV RL 48 RX3 yX3_harvest wsX3_harvest) := goodIn_app (goodIn_of _ (by decide +kernel)) ggL_harvest_X3_harvest
theorem dL_harvest_0 : decode cL_harvest 0 = .ok (.aload_n 3, 1) := by decide +kernel
theorem dL_harvest_1 : decode cL_harvest 1 = .ok (.iconst 0, 1) := by decide +kernel
theorem dL_harvest_2 : decode cL_harvest 2 = .ok (.aload_n 0, 1) := by decide +kernel
theorem dL_harvest_3 : decode cL_harvest 3 = .ok (.iload_n 1, 1) := by decide +kernel
theorem dL_harvest_4 : decode cL_harvest 4 = .ok (.iload_n 2, 1) := by decide +kernel
theorem dL_harvest_5 : decode cL_harvest 5 = .ok (.invokevirtual 48, 3) := by decide +kernel
theorem dL_harvest_8 : decode cL_harvest 8 = .ok (.i2l, 1) := by decide +kernel
theorem dL_harvest_9 : decode cL_harvest 9 = .ok (.lastore, 1) := by decide +kernel
theorem dL_harvest_10 : decode cL_harvest 10 = .ok (.goto 11, 3) := by decide +kernel
theorem dL_harvest_13 : decode cL_harvest 13 = .ok (.astore 4, 2) := by decide +kernel
theorem dL_harvest_15 : decode cL_harvest 15 = .ok (.iconst 1, 1) := by decide +kernel
theorem dL_harvest_16 : decode cL_harvest 16 = .ok (.ireturn, 1) := by decide +kernel
theorem dL_harvest_17 : decode cL_harvest 17 = .ok (.astore 4, 2) := by decide +kernel
theorem dL_harvest_19 : decode cL_harvest 19 = .ok (.iconst 2, 1) := by decide +kernel
theorem dL_harvest_20 : decode cL_harvest 20 = .ok (.ireturn, 1) := by decide +kernel
theorem dL_harvest_21 : decode cL_harvest 21 = .ok (.iconst 0, 1) := by decide +kernel
theorem dL_harvest_22 : decode cL_harvest 22 = .ok (.ireturn, 1) := by decide +kernel
set_option maxRecDepth 20000 in
theorem ggL_flower_X3_flower : GoodIn wsL_flower wsX3_flower := goodIn_ca (goodIn_ca (goodIn_r _ [7, 8, 9, 10, 11, 12, 13, 14, 15, 16, 17, 18, 19, 20, 21, 22, 23, 6, 24, 25, 26, 27, 28, 29, 30, 31, 32, 33, 34, 35, 36, 37, 38, 39, 40, 41, 42, 43, 44, 45, 46, 47, 48, 49, 50, 51, 52, 53, 54, 55, 56, 57, 58, 59, 60, 61, 62, 63, 64, 65, 66, 67, 68, 69, 70, 71, 72, 73, 74, 75, 76, 77, 78, 79, 80, 81, 82, 83, 84, 85, 86, 87, 88, 89, 90] (by decide +kernel) (by decide +kernel)) (goodIn_sub (fun _ h => List.mem_cons_of_mem _ (List.mem_append_left _ (List.mem_append_right _ h))) (by decide +kernel))) (goodIn_sub (fun _ h => List.mem_cons_of_mem _ (List.mem_append_right _ h)) (by decide +kernel))
set_option maxRecDepth 20000 in
theorem gL_flower_X3_flower : GoodIn wsL_flower (wsV RL 52 RX3 yX3_flower wsX3_flower) := goodIn_app (goodIn_of _ (by decide +kernel)) ggL_flower_X3_flower
theorem dL_flower_0 : decode cL_flower 0 = .ok (.aload_n 2, 1) := by decide +kernel
theorem dL_flower_1 : decode cL_flower 1 = .ok (.iconst 0, 1) := by decide +kernel
theorem dL_flower_2 : decode cL_flower 2 = .ok (.aload_n 0, 1) := by decide +kernel
theorem dL_flower_3 : decode cL_flower 3 = .ok (.iload_n 1, 1) := by decide +kernel
theorem dL_flower_4 : decode cL_flower 4 = .ok (.invokevirtual 52, 3) := by decide +kernel
theorem dL_flower_7 : decode cL_flower 7 = .ok (.i2l, 1) := by decide +kernel
theorem dL_flower_8 : decode cL_flower 8 = .ok (.lastore, 1) := by decide +kernel
theorem dL_flower_9 : decode cL_flower 9 = .ok (.goto 9, 3) := by decide +kernel
theorem dL_flower_12 : decode cL_flower 12 = .ok (.astore_n 3, 1) := by decide +kernel
theorem dL_flower_13 : decode cL_flower 13 = .ok (.iconst 1, 1) := by decide +kernel
theorem dL_flower_14 : decode cL_flower 14 = .ok (.ireturn, 1) := by decide +kernel
theorem dL_flower_15 : decode cL_flower 15 = .ok (.astore_n 3, 1) := by decide +kernel
theorem dL_flower_16 : decode cL_flower 16 = .ok (.iconst 2, 1) := by decide +kernel
theorem dL_flower_17 : decode cL_flower 17 = .ok (.ireturn, 1) := by decide +kernel
theorem dL_flower_18 : decode cL_flower 18 = .ok (.iconst 0, 1) := by decide +kernel
theorem dL_flower_19 : decode cL_flower 19 = .ok (.ireturn, 1) := by decide +kernel
set_option maxRecDepth 20000 in
theorem ggL_wash_X3_wash : GoodIn wsL_wash wsX3_wash := goodIn_ca (goodIn_ca (goodIn_r _ [7, 8, 9, 10, 11, 12, 13, 14, 15, 16, 6, 17, 18, 19, 20, 21, 22, 23, 24, 25, 26, 27, 28, 29, 30, 31, 32, 33, 34, 35, 36, 37, 38, 39, 40, 41, 42, 43, 44, 45, 46] (by decide +kernel) (by decide +kernel)) (goodIn_sub (fun _ h => List.mem_cons_of_mem _ (List.mem_append_left _ (List.mem_append_right _ h))) (by decide +kernel))) (goodIn_sub (fun _ h => List.mem_cons_of_mem _ (List.mem_append_right _ h)) (by decide +kernel))
set_option maxRecDepth 20000 in
theorem gL_wash_X3_wash : GoodIn wsL_wash (wsV RL 55 RX3 yX3_wash wsX3_wash) := goodIn_app (goodIn_of _ (by decide +kernel)) ggL_wash_X3_wash
theorem dL_wash_0 : decode cL_wash 0 = .ok (.aload_n 2, 1) := by decide +kernel
theorem dL_wash_1 : decode cL_wash 1 = .ok (.iconst 0, 1) := by decide +kernel
theorem dL_wash_2 : decode cL_wash 2 = .ok (.aload_n 0, 1) := by decide +kernel
theorem dL_wash_3 : decode cL_wash 3 = .ok (.iload_n 1, 1) := by decide +kernel
theorem dL_wash_4 : decode cL_wash 4 = .ok (.invokevirtual 55, 3) := by decide +kernel
theorem dL_wash_7 : decode cL_wash 7 = .ok (.i2l, 1) := by decide +kernel
theorem dL_wash_8 : decode cL_wash 8 = .ok (.lastore, 1) := by decide +kernel
theorem dL_wash_9 : decode cL_wash 9 = .ok (.goto 9, 3) := by decide +kernel
theorem dL_wash_12 : decode cL_wash 12 = .ok (.astore_n 3, 1) := by decide +kernel
theorem dL_wash_13 : decode cL_wash 13 = .ok (.iconst 1, 1) := by decide +kernel
theorem dL_wash_14 : decode cL_wash 14 = .ok (.ireturn, 1) := by decide +kernel
theorem dL_wash_15 : decode cL_wash 15 = .ok (.astore_n 3, 1) := by decide +kernel
theorem dL_wash_16 : decode cL_wash 16 = .ok (.iconst 2, 1) := by decide +kernel
theorem dL_wash_17 : decode cL_wash 17 = .ok (.ireturn, 1) := by decide +kernel
theorem dL_wash_18 : decode cL_wash 18 = .ok (.iconst 0, 1) := by decide +kernel
theorem dL_wash_19 : decode cL_wash 19 = .ok (.ireturn, 1) := by decide +kernel
set_option maxRecDepth 20000 in
theorem ggL_sell_X3_sell : GoodIn wsL_sell wsX3_sell := goodIn_ca (goodIn_ca (goodIn_ca (goodIn_r _ [8, 9, 10, 11, 12, 13, 14, 15, 16, 17, 18, 19, 7, 20, 21, 22, 23, 24, 25, 26, 27, 28, 29, 30, 31, 32, 33, 34, 35, 36, 37, 38, 39, 40, 41, 42, 43, 44, 45, 46, 47, 48, 49, 50, 51, 52, 53, 54, 55] (by decide +kernel) (by decide +kernel)) (goodIn_sub (fun _ h => List.mem_cons_of_mem _ (List.mem_append_left _ (List.mem_append_left _ (List.mem_append_right _ h)))) (by decide +kernel))) (goodIn_sub (fun _ h => List.mem_cons_of_mem _ (List.mem_append_left _ (List.mem_append_right _ h))) (by decide +kernel))) (goodIn_sub (fun _ h => List.mem_cons_of_mem _ (List.mem_append_right _ h)) (by decide +kernel))
set_option maxRecDepth 20000 in
theorem gL_sell_X3_sell : GoodIn wsL_sell (wsV RL 58 RX3 yX3_sell wsX3_sell) := goodIn_app (goodIn_of _ (by decide +kernel)) ggL_sell_X3_sell
theorem dL_sell_0 : decode cL_sell 0 = .ok (.aload 4, 2) := by decide +kernel
theorem dL_sell_2 : decode cL_sell 2 = .ok (.iconst 0, 1) := by decide +kernel
theorem dL_sell_3 : decode cL_sell 3 = .ok (.aload_n 0, 1) := by decide +kernel
theorem dL_sell_4 : decode cL_sell 4 = .ok (.iload_n 1, 1) := by decide +kernel
theorem dL_sell_5 : decode cL_sell 5 = .ok (.iload_n 2, 1) := by decide +kernel
theorem dL_sell_6 : decode cL_sell 6 = .ok (.iload_n 3, 1) := by decide +kernel
theorem dL_sell_7 : decode cL_sell 7 = .ok (.invokevirtual 58, 3) := by decide +kernel
theorem dL_sell_10 : decode cL_sell 10 = .ok (.i2l, 1) := by decide +kernel
theorem dL_sell_11 : decode cL_sell 11 = .ok (.lastore, 1) := by decide +kernel
theorem dL_sell_12 : decode cL_sell 12 = .ok (.goto 15, 3) := by decide +kernel
theorem dL_sell_15 : decode cL_sell 15 = .ok (.astore 5, 2) := by decide +kernel
theorem dL_sell_17 : decode cL_sell 17 = .ok (.iconst 1, 1) := by decide +kernel
theorem dL_sell_18 : decode cL_sell 18 = .ok (.ireturn, 1) := by decide +kernel
theorem dL_sell_19 : decode cL_sell 19 = .ok (.astore 5, 2) := by decide +kernel
theorem dL_sell_21 : decode cL_sell 21 = .ok (.iconst 2, 1) := by decide +kernel
theorem dL_sell_22 : decode cL_sell 22 = .ok (.ireturn, 1) := by decide +kernel
theorem dL_sell_23 : decode cL_sell 23 = .ok (.astore 5, 2) := by decide +kernel
theorem dL_sell_25 : decode cL_sell 25 = .ok (.iconst 3, 1) := by decide +kernel
theorem dL_sell_26 : decode cL_sell 26 = .ok (.ireturn, 1) := by decide +kernel
theorem dL_sell_27 : decode cL_sell 27 = .ok (.iconst 0, 1) := by decide +kernel
theorem dL_sell_28 : decode cL_sell 28 = .ok (.ireturn, 1) := by decide +kernel
set_option maxRecDepth 20000 in
theorem ggL_ofPond_X3_ofPond : GoodIn wsL_ofPond wsX3_ofPond := goodIn_ca (goodIn_ca (goodIn_r _ [7, 8, 9, 10, 11, 12, 13, 14, 6, 15, 16, 17, 18, 19, 20, 21, 22, 23, 24, 25, 26, 27, 28, 29, 30, 31, 32, 33, 34, 35, 36, 37, 38, 39, 40, 41, 42, 43, 44, 45, 46, 47, 48, 49, 50, 51, 52, 53, 54, 55, 56, 57, 58, 59, 60, 61, 62, 63, 64, 65, 66, 67, 68, 69, 70, 71, 72, 73] (by decide +kernel) (by decide +kernel)) (goodIn_sub (fun _ h => List.mem_cons_of_mem _ (List.mem_append_left _ (List.mem_append_right _ h))) (by decide +kernel))) (goodIn_sub (fun _ h => List.mem_cons_of_mem _ (List.mem_append_right _ h)) (by decide +kernel))
set_option maxRecDepth 20000 in
theorem gL_ofPond_X3_ofPond : GoodIn wsL_ofPond (wsV RL 61 RX3 yX3_ofPond wsX3_ofPond) := goodIn_app (goodIn_of _ (by decide +kernel)) ggL_ofPond_X3_ofPond
theorem dL_ofPond_0 : decode cL_ofPond 0 = .ok (.aload_n 3, 1) := by decide +kernel
theorem dL_ofPond_1 : decode cL_ofPond 1 = .ok (.iconst 0, 1) := by decide +kernel
theorem dL_ofPond_2 : decode cL_ofPond 2 = .ok (.aload_n 0, 1) := by decide +kernel
theorem dL_ofPond_3 : decode cL_ofPond 3 = .ok (.iload_n 1, 1) := by decide +kernel
theorem dL_ofPond_4 : decode cL_ofPond 4 = .ok (.iload_n 2, 1) := by decide +kernel
theorem dL_ofPond_5 : decode cL_ofPond 5 = .ok (.invokevirtual 61, 3) := by decide +kernel
theorem dL_ofPond_8 : decode cL_ofPond 8 = .ok (.i2l, 1) := by decide +kernel
theorem dL_ofPond_9 : decode cL_ofPond 9 = .ok (.lastore, 1) := by decide +kernel
theorem dL_ofPond_10 : decode cL_ofPond 10 = .ok (.goto 11, 3) := by decide +kernel
theorem dL_ofPond_13 : decode cL_ofPond 13 = .ok (.astore 4, 2) := by decide +kernel
theorem dL_ofPond_15 : decode cL_ofPond 15 = .ok (.iconst 1, 1) := by decide +kernel
theorem dL_ofPond_16 : decode cL_ofPond 16 = .ok (.ireturn, 1) := by decide +kernel
theorem dL_ofPond_17 : decode cL_ofPond 17 = .ok (.astore 4, 2) := by decide +kernel
theorem dL_ofPond_19 : decode cL_ofPond 19 = .ok (.iconst 2, 1) := by decide +kernel
theorem dL_ofPond_20 : decode cL_ofPond 20 = .ok (.ireturn, 1) := by decide +kernel
theorem dL_ofPond_21 : decode cL_ofPond 21 = .ok (.iconst 0, 1) := by decide +kernel
theorem dL_ofPond_22 : decode cL_ofPond 22 = .ok (.ireturn, 1) := by decide +kernel
set_option maxRecDepth 20000 in
theorem ggL_ofFamily_X3_ofFamily : GoodIn wsL_ofFamily wsX3_ofFamily := goodIn_ca (goodIn_ca (goodIn_r _ [7, 8, 9, 10, 11, 12, 13, 6, 14, 15, 16, 17, 18, 19, 20, 21, 22, 23, 24, 25, 26, 27, 28, 29, 30, 31, 32, 33, 34, 35, 36, 37, 38, 39, 40, 41, 42, 43, 44, 45, 46, 47, 48, 49] (by decide +kernel) (by decide +kernel)) (goodIn_sub (fun _ h => List.mem_cons_of_mem _ (List.mem_append_left _ (List.mem_append_right _ h))) (by decide +kernel))) (goodIn_sub (fun _ h => List.mem_cons_of_mem _ (List.mem_append_right _ h)) (by decide +kernel))
set_option maxRecDepth 20000 in
theorem gL_ofFamily_X3_ofFamily : GoodIn wsL_ofFamily (wsV RL 64 RX3 yX3_ofFamily wsX3_ofFamily) := goodIn_app (goodIn_of _ (by decide +kernel)) ggL_ofFamily_X3_ofFamily
theorem dL_ofFamily_0 : decode cL_ofFamily 0 = .ok (.aload_n 3, 1) := by decide +kernel
theorem dL_ofFamily_1 : decode cL_ofFamily 1 = .ok (.iconst 0, 1) := by decide +kernel
theorem dL_ofFamily_2 : decode cL_ofFamily 2 = .ok (.aload_n 0, 1) := by decide +kernel
theorem dL_ofFamily_3 : decode cL_ofFamily 3 = .ok (.iload_n 1, 1) := by decide +kernel
theorem dL_ofFamily_4 : decode cL_ofFamily 4 = .ok (.iload_n 2, 1) := by decide +kernel
theorem dL_ofFamily_5 : decode cL_ofFamily 5 = .ok (.invokevirtual 64, 3) := by decide +kernel
theorem dL_ofFamily_8 : decode cL_ofFamily 8 = .ok (.i2l, 1) := by decide +kernel
theorem dL_ofFamily_9 : decode cL_ofFamily 9 = .ok (.lastore, 1) := by decide +kernel
theorem dL_ofFamily_10 : decode cL_ofFamily 10 = .ok (.goto 11, 3) := by decide +kernel
theorem dL_ofFamily_13 : decode cL_ofFamily 13 = .ok (.astore 4, 2) := by decide +kernel
theorem dL_ofFamily_15 : decode cL_ofFamily 15 = .ok (.iconst 1, 1) := by decide +kernel
theorem dL_ofFamily_16 : decode cL_ofFamily 16 = .ok (.ireturn, 1) := by decide +kernel
theorem dL_ofFamily_17 : decode cL_ofFamily 17 = .ok (.astore 4, 2) := by decide +kernel
theorem dL_ofFamily_19 : decode cL_ofFamily 19 = .ok (.iconst 2, 1) := by decide +kernel
theorem dL_ofFamily_20 : decode cL_ofFamily 20 = .ok (.ireturn, 1) := by decide +kernel
theorem dL_ofFamily_21 : decode cL_ofFamily 21 = .ok (.iconst 0, 1) := by decide +kernel
theorem dL_ofFamily_22 : decode cL_ofFamily 22 = .ok (.ireturn, 1) := by decide +kernel
set_option maxRecDepth 20000 in
theorem ggL_rightOf_X3_rightOf : GoodIn wsL_rightOf wsX3_rightOf := goodIn_ca (goodIn_r _ [6, 7, 8, 9, 10, 11, 5, 12, 13, 14, 15, 16, 17, 18, 19, 20, 21, 22, 23, 24, 25, 26, 27, 28, 29, 30, 31, 32, 33, 34, 35] (by decide +kernel) (by decide +kernel)) (goodIn_sub (fun _ h => List.mem_cons_of_mem _ (List.mem_append_right _ h)) (by decide +kernel))
set_option maxRecDepth 20000 in
theorem gL_rightOf_X3_rightOf : GoodIn wsL_rightOf (wsV RL 67 RX3 yX3_rightOf wsX3_rightOf) := goodIn_app (goodIn_of _ (by decide +kernel)) ggL_rightOf_X3_rightOf
theorem dL_rightOf_0 : decode cL_rightOf 0 = .ok (.aload_n 3, 1) := by decide +kernel
theorem dL_rightOf_1 : decode cL_rightOf 1 = .ok (.iconst 0, 1) := by decide +kernel
theorem dL_rightOf_2 : decode cL_rightOf 2 = .ok (.aload_n 0, 1) := by decide +kernel
theorem dL_rightOf_3 : decode cL_rightOf 3 = .ok (.iload_n 1, 1) := by decide +kernel
theorem dL_rightOf_4 : decode cL_rightOf 4 = .ok (.iload_n 2, 1) := by decide +kernel
theorem dL_rightOf_5 : decode cL_rightOf 5 = .ok (.invokevirtual 67, 3) := by decide +kernel
theorem dL_rightOf_8 : decode cL_rightOf 8 = .ok (.i2l, 1) := by decide +kernel
theorem dL_rightOf_9 : decode cL_rightOf 9 = .ok (.lastore, 1) := by decide +kernel
theorem dL_rightOf_10 : decode cL_rightOf 10 = .ok (.goto 7, 3) := by decide +kernel
theorem dL_rightOf_13 : decode cL_rightOf 13 = .ok (.astore 4, 2) := by decide +kernel
theorem dL_rightOf_15 : decode cL_rightOf 15 = .ok (.iconst 1, 1) := by decide +kernel
theorem dL_rightOf_16 : decode cL_rightOf 16 = .ok (.ireturn, 1) := by decide +kernel
theorem dL_rightOf_17 : decode cL_rightOf 17 = .ok (.iconst 0, 1) := by decide +kernel
theorem dL_rightOf_18 : decode cL_rightOf 18 = .ok (.ireturn, 1) := by decide +kernel
set_option maxRecDepth 20000 in
theorem ggL_tide_X3_tide : GoodIn wsL_tide wsX3_tide := goodIn_ca (goodIn_r _ [6, 7, 8, 9, 10, 5, 11, 12, 13, 14, 15] (by decide +kernel) (by decide +kernel)) (goodIn_sub (fun _ h => List.mem_cons_of_mem _ (List.mem_append_right _ h)) (by decide +kernel))
set_option maxRecDepth 20000 in
theorem gL_tide_X3_tide : GoodIn wsL_tide (wsV RL 70 RX3 yX3_tide wsX3_tide) := goodIn_app (goodIn_of _ (by decide +kernel)) ggL_tide_X3_tide
theorem dL_tide_0 : decode cL_tide 0 = .ok (.aload_n 2, 1) := by decide +kernel
theorem dL_tide_1 : decode cL_tide 1 = .ok (.iconst 0, 1) := by decide +kernel
theorem dL_tide_2 : decode cL_tide 2 = .ok (.aload_n 0, 1) := by decide +kernel
theorem dL_tide_3 : decode cL_tide 3 = .ok (.iload_n 1, 1) := by decide +kernel
theorem dL_tide_4 : decode cL_tide 4 = .ok (.invokevirtual 70, 3) := by decide +kernel
theorem dL_tide_7 : decode cL_tide 7 = .ok (.i2l, 1) := by decide +kernel
theorem dL_tide_8 : decode cL_tide 8 = .ok (.lastore, 1) := by decide +kernel
theorem dL_tide_9 : decode cL_tide 9 = .ok (.goto 6, 3) := by decide +kernel
theorem dL_tide_12 : decode cL_tide 12 = .ok (.astore_n 3, 1) := by decide +kernel
theorem dL_tide_13 : decode cL_tide 13 = .ok (.iconst 1, 1) := by decide +kernel
theorem dL_tide_14 : decode cL_tide 14 = .ok (.ireturn, 1) := by decide +kernel
theorem dL_tide_15 : decode cL_tide 15 = .ok (.iconst 0, 1) := by decide +kernel
theorem dL_tide_16 : decode cL_tide 16 = .ok (.ireturn, 1) := by decide +kernel
set_option maxRecDepth 20000 in
theorem ggL_many_X3_many : GoodIn wsL_many wsX3_many := goodIn_ca (goodIn_r _ [6, 7, 8, 9, 10, 11, 12, 13, 14, 15, 16, 17, 18, 19, 20, 21, 22, 23, 24, 25, 26, 27, 28, 29, 30, 31, 32, 33, 34, 35, 36, 37, 38, 39, 40, 41, 42, 43, 44, 45, 46, 47, 48, 49, 50, 51, 52, 53, 5, 54, 55, 56, 57, 58, 59, 60, 61, 62, 63, 64, 65, 66, 67, 68, 69, 70, 71, 72, 73, 74, 75, 76, 77, 78, 79, 80, 81, 82, 83, 84, 85, 86, 87, 88, 89, 90, 91, 92, 93, 94, 95, 96, 97, 98, 99, 100, 101, 102, 103, 104, 105, 106, 107, 108, 109, 110, 111, 112, 113, 114, 115] (by decide +kernel) (by decide +kernel)) (goodIn_sub (fun _ h => List.mem_cons_of_mem _ (List.mem_append_right _ h)) (by decide +kernel))
set_option maxRecDepth 20000 in
theorem gL_many_X3_many : GoodIn wsL_many (wsV RL 73 RX3 yX3_many wsX3_many) := goodIn_app (goodIn_of _ (by decide +kernel)) ggL_many_X3_many
theorem dL_many_0 : decode cL_many 0 = .ok (.aload_n 2, 1) := by decide +kernel
theorem dL_many_1 : decode cL_many 1 = .ok (.iconst 0, 1) := by decide +kernel
theorem dL_many_2 : decode cL_many 2 = .ok (.aload_n 0, 1) := by decide +kernel
theorem dL_many_3 : decode cL_many 3 = .ok (.iload_n 1, 1) := by decide +kernel
theorem dL_many_4 : decode cL_many 4 = .ok (.invokevirtual 73, 3) := by decide +kernel
theorem dL_many_7 : decode cL_many 7 = .ok (.i2l, 1) := by decide +kernel
theorem dL_many_8 : decode cL_many 8 = .ok (.lastore, 1) := by decide +kernel
theorem dL_many_9 : decode cL_many 9 = .ok (.goto 6, 3) := by decide +kernel
theorem dL_many_12 : decode cL_many 12 = .ok (.astore_n 3, 1) := by decide +kernel
theorem dL_many_13 : decode cL_many 13 = .ok (.iconst 1, 1) := by decide +kernel
theorem dL_many_14 : decode cL_many 14 = .ok (.ireturn, 1) := by decide +kernel
theorem dL_many_15 : decode cL_many 15 = .ok (.iconst 0, 1) := by decide +kernel
theorem dL_many_16 : decode cL_many 16 = .ok (.ireturn, 1) := by decide +kernel
set_option maxRecDepth 20000 in
theorem ggL_crustIn_X3_crustIn : GoodIn wsL_crustIn wsX3_crustIn := goodIn_ca (goodIn_ca (goodIn_r _ [7, 8, 9, 10, 11, 12, 13, 14, 6, 15, 16, 17, 18, 19, 20, 21, 22, 23, 24, 25, 26, 27, 28, 29, 30, 31, 32, 33, 34, 35, 36, 37, 38, 39, 40, 41, 42, 43, 44, 45, 46, 47, 48, 49, 50, 51, 52, 53, 54, 55, 56, 57, 58, 59, 60, 61, 62, 63, 64, 65, 66, 67, 68, 69, 70, 71, 72, 73, 74, 75, 76, 77, 78, 79, 80, 81, 82, 83, 84, 85, 86, 87, 88, 89, 90, 91, 92, 93, 94, 95, 96, 97, 98, 99, 100, 101, 102, 103, 104, 105, 106, 107, 108, 109, 110, 111, 112, 113, 114, 115, 116, 117, 118, 119, 120, 121, 122, 123, 124, 125, 126, 127, 128, 129, 130, 131, 132, 133, 134, 135, 136, 137, 138, 139, 140, 141, 142, 143, 144, 145, 146, 147, 148] (by decide +kernel) (by decide +kernel)) (goodIn_sub (fun _ h => List.mem_cons_of_mem _ (List.mem_append_left _ (List.mem_append_right _ h))) (by decide +kernel))) (goodIn_sub (fun _ h => List.mem_cons_of_mem _ (List.mem_append_right _ h)) (by decide +kernel))
set_option maxRecDepth 20000 in
theorem gL_crustIn_X3_crustIn : GoodIn wsL_crustIn (wsV RL 76 RX3 yX3_crustIn wsX3_crustIn) := goodIn_app (goodIn_of _ (by decide +kernel)) ggL_crustIn_X3_crustIn
theorem dL_crustIn_0 : decode cL_crustIn 0 = .ok (.aload 4, 2) := by decide +kernel
theorem dL_crustIn_2 : decode cL_crustIn 2 = .ok (.iconst 0, 1) := by decide +kernel
theorem dL_crustIn_3 : decode cL_crustIn 3 = .ok (.aload_n 0, 1) := by decide +kernel
theorem dL_crustIn_4 : decode cL_crustIn 4 = .ok (.iload_n 1, 1) := by decide +kernel
theorem dL_crustIn_5 : decode cL_crustIn 5 = .ok (.iload_n 2, 1) := by decide +kernel
theorem dL_crustIn_6 : decode cL_crustIn 6 = .ok (.iload_n 3, 1) := by decide +kernel
theorem dL_crustIn_7 : decode cL_crustIn 7 = .ok (.invokevirtual 76, 3) := by decide +kernel
theorem dL_crustIn_10 : decode cL_crustIn 10 = .ok (.i2l, 1) := by decide +kernel
theorem dL_crustIn_11 : decode cL_crustIn 11 = .ok (.lastore, 1) := by decide +kernel
theorem dL_crustIn_12 : decode cL_crustIn 12 = .ok (.goto 11, 3) := by decide +kernel
theorem dL_crustIn_15 : decode cL_crustIn 15 = .ok (.astore 5, 2) := by decide +kernel
theorem dL_crustIn_17 : decode cL_crustIn 17 = .ok (.iconst 1, 1) := by decide +kernel
theorem dL_crustIn_18 : decode cL_crustIn 18 = .ok (.ireturn, 1) := by decide +kernel
theorem dL_crustIn_19 : decode cL_crustIn 19 = .ok (.astore 5, 2) := by decide +kernel
theorem dL_crustIn_21 : decode cL_crustIn 21 = .ok (.iconst 2, 1) := by decide +kernel
theorem dL_crustIn_22 : decode cL_crustIn 22 = .ok (.ireturn, 1) := by decide +kernel
theorem dL_crustIn_23 : decode cL_crustIn 23 = .ok (.iconst 0, 1) := by decide +kernel
theorem dL_crustIn_24 : decode cL_crustIn 24 = .ok (.ireturn, 1) := by decide +kernel
set_option maxRecDepth 20000 in
theorem ggL_bestGates_X3_bestGates : GoodIn wsL_bestGates wsX3_bestGates := goodIn_ca (goodIn_r _ [6, 7, 8, 9, 10, 11, 5, 12, 13, 14, 15, 16, 17, 18, 19, 20, 21, 22, 23, 24, 25, 26, 27, 28, 29, 30, 31, 32, 33, 34, 35, 36, 37, 38, 39, 40, 41, 42, 43, 44, 45, 46, 47, 48, 49, 50, 51, 52, 53, 54, 55, 56, 57, 58, 59, 60, 61, 62, 63, 64, 65, 66, 67, 68, 69, 70, 71, 72, 73, 74, 75, 76, 77, 78, 79, 80, 81, 82, 83, 84, 85, 86, 87, 88, 89, 90, 91, 92, 93, 94, 95, 96, 97, 98, 99, 100, 101, 102, 103, 104, 105, 106, 107, 108, 109, 110, 111, 112, 113, 114, 115, 116, 117, 118, 119, 120, 121, 122, 123, 124, 125, 126, 127, 128, 129, 130, 131, 132, 133, 134, 135, 136, 137, 138, 139, 140, 141, 142, 143, 144, 145, 146, 147, 148, 149, 150, 151, 152, 153] (by decide +kernel) (by decide +kernel)) (goodIn_sub (fun _ h => List.mem_cons_of_mem _ (List.mem_append_right _ h)) (by decide +kernel))
set_option maxRecDepth 20000 in
theorem gL_bestGates_X3_bestGates : GoodIn wsL_bestGates (wsV RL 79 RX3 yX3_bestGates wsX3_bestGates) := goodIn_app (goodIn_of _ (by decide +kernel)) ggL_bestGates_X3_bestGates
theorem dL_bestGates_0 : decode cL_bestGates 0 = .ok (.aload 4, 2) := by decide +kernel
theorem dL_bestGates_2 : decode cL_bestGates 2 = .ok (.iconst 0, 1) := by decide +kernel
theorem dL_bestGates_3 : decode cL_bestGates 3 = .ok (.aload_n 0, 1) := by decide +kernel
theorem dL_bestGates_4 : decode cL_bestGates 4 = .ok (.iload_n 1, 1) := by decide +kernel
theorem dL_bestGates_5 : decode cL_bestGates 5 = .ok (.iload_n 2, 1) := by decide +kernel
theorem dL_bestGates_6 : decode cL_bestGates 6 = .ok (.iload_n 3, 1) := by decide +kernel
theorem dL_bestGates_7 : decode cL_bestGates 7 = .ok (.invokevirtual 79, 3) := by decide +kernel
theorem dL_bestGates_10 : decode cL_bestGates 10 = .ok (.i2l, 1) := by decide +kernel
theorem dL_bestGates_11 : decode cL_bestGates 11 = .ok (.lastore, 1) := by decide +kernel
theorem dL_bestGates_12 : decode cL_bestGates 12 = .ok (.goto 7, 3) := by decide +kernel
theorem dL_bestGates_15 : decode cL_bestGates 15 = .ok (.astore 5, 2) := by decide +kernel
theorem dL_bestGates_17 : decode cL_bestGates 17 = .ok (.iconst 1, 1) := by decide +kernel
theorem dL_bestGates_18 : decode cL_bestGates 18 = .ok (.ireturn, 1) := by decide +kernel
theorem dL_bestGates_19 : decode cL_bestGates 19 = .ok (.iconst 0, 1) := by decide +kernel
theorem dL_bestGates_20 : decode cL_bestGates 20 = .ok (.ireturn, 1) := by decide +kernel
set_option maxRecDepth 20000 in
theorem ggL_wouldBe_X3_wouldBe : GoodIn wsL_wouldBe wsX3_wouldBe := goodIn_ca (goodIn_r _ [6, 7, 8, 9, 10, 11, 12, 13, 14, 15, 16, 5, 17, 18, 19, 20, 21, 22, 23, 24, 25, 26, 27, 28, 29, 30, 31, 32, 33, 34, 35, 36, 37, 38, 39, 40, 41, 42, 43, 44, 45, 46, 47, 48, 49, 50, 51, 52, 53, 54, 55, 56, 57, 58, 59, 60, 61, 62, 63, 64, 65, 66, 67, 68, 69, 70, 71, 72, 73, 74, 75, 76, 77, 78, 79, 80, 81, 82, 83, 84, 85, 86, 87, 88, 89, 90, 91, 92] (by decide +kernel) (by decide +kernel)) (goodIn_sub (fun _ h => List.mem_cons_of_mem _ (List.mem_append_right _ h)) (by decide +kernel))
set_option maxRecDepth 20000 in
theorem gL_wouldBe_X3_wouldBe : GoodIn wsL_wouldBe (wsV RL 82 RX3 yX3_wouldBe wsX3_wouldBe) := goodIn_app (goodIn_of _ (by decide +kernel)) ggL_wouldBe_X3_wouldBe
theorem dL_wouldBe_0 : decode cL_wouldBe 0 = .ok (.aload 4, 2) := by decide +kernel
theorem dL_wouldBe_2 : decode cL_wouldBe 2 = .ok (.iconst 0, 1) := by decide +kernel
theorem dL_wouldBe_3 : decode cL_wouldBe 3 = .ok (.aload_n 0, 1) := by decide +kernel
theorem dL_wouldBe_4 : decode cL_wouldBe 4 = .ok (.iload_n 1, 1) := by decide +kernel
theorem dL_wouldBe_5 : decode cL_wouldBe 5 = .ok (.iload_n 2, 1) := by decide +kernel
theorem dL_wouldBe_6 : decode cL_wouldBe 6 = .ok (.iload_n 3, 1) := by decide +kernel
theorem dL_wouldBe_7 : decode cL_wouldBe 7 = .ok (.invokevirtual 82, 3) := by decide +kernel
theorem dL_wouldBe_10 : decode cL_wouldBe 10 = .ok (.i2l, 1) := by decide +kernel
theorem dL_wouldBe_11 : decode cL_wouldBe 11 = .ok (.lastore, 1) := by decide +kernel
theorem dL_wouldBe_12 : decode cL_wouldBe 12 = .ok (.goto 7, 3) := by decide +kernel
theorem dL_wouldBe_15 : decode cL_wouldBe 15 = .ok (.astore 5, 2) := by decide +kernel
theorem dL_wouldBe_17 : decode cL_wouldBe 17 = .ok (.iconst 1, 1) := by decide +kernel
theorem dL_wouldBe_18 : decode cL_wouldBe 18 = .ok (.ireturn, 1) := by decide +kernel
theorem dL_wouldBe_19 : decode cL_wouldBe 19 = .ok (.iconst 0, 1) := by decide +kernel
theorem dL_wouldBe_20 : decode cL_wouldBe 20 = .ok (.ireturn, 1) := by decide +kernel
set_option maxRecDepth 20000 in
theorem ggL_tideOn_X3_tideOn : GoodIn wsL_tideOn wsX3_tideOn := goodIn_ca (goodIn_r _ [6, 7, 8, 9, 10, 11, 12, 5, 13, 14, 15, 16, 17, 18, 19, 20, 21, 22, 23, 24, 25, 26, 27, 28, 29, 30, 31, 32] (by decide +kernel) (by decide +kernel)) (goodIn_sub (fun _ h => List.mem_cons_of_mem _ (List.mem_append_right _ h)) (by decide +kernel))
set_option maxRecDepth 20000 in
theorem gL_tideOn_X3_tideOn : GoodIn wsL_tideOn (wsV RL 86 RX3 yX3_tideOn wsX3_tideOn) := goodIn_app (goodIn_of _ (by decide +kernel)) ggL_tideOn_X3_tideOn
theorem dL_tideOn_0 : decode cL_tideOn 0 = .ok (.aload_n 3, 1) := by decide +kernel
theorem dL_tideOn_1 : decode cL_tideOn 1 = .ok (.iconst 0, 1) := by decide +kernel
theorem dL_tideOn_2 : decode cL_tideOn 2 = .ok (.aload_n 0, 1) := by decide +kernel
theorem dL_tideOn_3 : decode cL_tideOn 3 = .ok (.iload_n 1, 1) := by decide +kernel
theorem dL_tideOn_4 : decode cL_tideOn 4 = .ok (.iload_n 2, 1) := by decide +kernel
theorem dL_tideOn_5 : decode cL_tideOn 5 = .ok (.invokevirtual 86, 3) := by decide +kernel
theorem dL_tideOn_8 : decode cL_tideOn 8 = .ok (.i2l, 1) := by decide +kernel
theorem dL_tideOn_9 : decode cL_tideOn 9 = .ok (.lastore, 1) := by decide +kernel
theorem dL_tideOn_10 : decode cL_tideOn 10 = .ok (.goto 7, 3) := by decide +kernel
theorem dL_tideOn_13 : decode cL_tideOn 13 = .ok (.astore 4, 2) := by decide +kernel
theorem dL_tideOn_15 : decode cL_tideOn 15 = .ok (.iconst 1, 1) := by decide +kernel
theorem dL_tideOn_16 : decode cL_tideOn 16 = .ok (.ireturn, 1) := by decide +kernel
theorem dL_tideOn_17 : decode cL_tideOn 17 = .ok (.iconst 0, 1) := by decide +kernel
theorem dL_tideOn_18 : decode cL_tideOn 18 = .ok (.ireturn, 1) := by decide +kernel
set_option maxRecDepth 20000 in
theorem ggL_law_X3_init : GoodIn wsL_law wsX3_init := goodIn_r _ [9, 10, 11, 12, 13, 14, 15, 16, 17, 18, 19, 20, 21, 22, 23, 24, 25, 26, 27, 28, 29, 30, 31, 32, 33, 34, 35, 36, 37, 38, 899, 900, 901, 902, 903, 878, 879, 880, 881, 882, 883, 884, 885, 886, 887, 904, 905, 906, 907, 908, 909, 910, 911, 912, 913, 914, 915, 916, 917, 918, 919, 920, 921] (by decide +kernel) (by decide +kernel)
set_option maxRecDepth 20000 in
theorem gL_law_X3_init : GoodIn wsL_law (wsX3_init) := ggL_law_X3_init
set_option maxRecDepth 20000 in
theorem ggL_law_X6_init : GoodIn wsL_law wsX6_init := goodIn_r _ [41, 42, 11, 12, 43, 44, 45, 46, 47, 48, 49, 50, 51, 52, 53, 54, 55, 56, 57, 58, 59, 60, 61, 62, 63, 64, 65, 66, 67, 68, 69, 70, 71, 72, 73, 74, 75, 76, 77, 78, 922, 923, 924, 888, 889, 890, 891, 892, 893, 894, 895, 896, 897, 898, 925, 926, 927, 928, 929, 930, 931, 932, 933, 934, 935, 936, 937, 938] (by decide +kernel) (by decide +kernel)
set_option maxRecDepth 20000 in
theorem gL_law_X6_init : GoodIn wsL_law (wsX6_init) := ggL_law_X6_init
set_option maxRecDepth 20000 in
theorem ggL_law_L_area : GoodIn wsL_law wsL_area := goodIn_ca (goodIn_ca (goodIn_ca (goodIn_r _ [82, 83, 84, 85, 86, 87, 88, 2, 89, 90, 91, 92, 93, 16, 94, 95, 96, 97, 98, 99, 100, 101, 102, 878, 879, 880, 881, 882, 883, 884, 885, 886, 887, 899, 900, 901, 902, 903, 910, 911, 912, 913, 914, 915, 916, 917, 918, 919, 920, 921] (by decide +kernel) (by decide +kernel)) (goodIn_sub (fun _ h => List.mem_append_left _ (List.mem_append_left _ (List.mem_append_right _ h))) (by decide +kernel))) (goodIn_sub (fun _ h => List.mem_append_left _ (List.mem_append_right _ h)) (by decide +kernel))) (goodIn_sub (fun _ h => List.mem_append_right _ h) (by decide +kernel))
set_option maxRecDepth 20000 in
theorem gL_law_L_area : GoodIn wsL_law (va_wsS RL 93 yL_area wsL_area) := goodIn_app (goodIn_of _ (by decide +kernel)) ggL_law_L_area
set_option maxRecDepth 20000 in
theorem ggL_law_X6_area : GoodIn wsL_law wsX6_area := goodIn_r _ [106, 46, 107, 108, 109, 110, 111, 5, 112, 113, 114, 115, 116, 117, 118, 119, 120, 121, 122, 123, 124, 888, 889, 890, 891, 892, 893, 894, 895, 896, 897, 898, 922, 923, 924, 928, 929, 930, 931, 932, 933, 934, 935, 936, 937, 938] (by decide +kernel) (by decide +kernel)
set_option maxRecDepth 20000 in
theorem gL_law_X6_area : GoodIn wsL_law (wsV RL 98 RX6 yX6_area wsX6_area) := goodIn_app (goodIn_of _ (by decide +kernel)) ggL_law_X6_area
set_option maxRecDepth 20000 in
theorem ggL_law_X6_thrown : GoodIn wsL_law wsX6_thrown := goodIn_r _ [128, 120, 888, 889, 890, 891, 892, 893, 894, 895, 896, 897, 898] (by decide +kernel) (by decide +kernel)
set_option maxRecDepth 20000 in
theorem gL_law_X6_thrown : GoodIn wsL_law (wsV RL 99 RX6 yX6_thrown wsX6_thrown) := goodIn_app (goodIn_of _ (by decide +kernel)) ggL_law_X6_thrown
set_option maxRecDepth 20000 in
theorem ggL_law_L_gate : GoodIn wsL_law wsL_gate := goodIn_ca (goodIn_r _ [131, 83, 132, 133, 134, 2, 135, 16, 95, 136, 97, 98, 99, 100, 101, 102, 878, 879, 880, 881, 882, 883, 884, 885, 886, 887, 899, 900, 901, 902, 903, 910, 911, 912, 913, 914, 915, 916, 917, 918, 919, 920, 921] (by decide +kernel) (by decide +kernel)) (goodIn_sub (fun _ h => List.mem_append_right _ h) (by decide +kernel))
set_option maxRecDepth 20000 in
theorem gL_law_L_gate : GoodIn wsL_law (va_wsS RL 102 yL_gate wsL_gate) := goodIn_app (goodIn_of _ (by decide +kernel)) ggL_law_L_gate
set_option maxRecDepth 20000 in
theorem ggL_law_X6_gate : GoodIn wsL_law wsX6_gate := goodIn_r _ [140, 46, 108, 141, 110, 111, 5, 112, 113, 114, 115, 116, 117, 118, 119, 120, 121, 122, 123, 124, 888, 889, 890, 891, 892, 893, 894, 895, 896, 897, 898, 922, 923, 924, 928, 929, 930, 931, 932, 933, 934, 935, 936, 937, 938] (by decide +kernel) (by decide +kernel)
set_option maxRecDepth 20000 in
theorem gL_law_X6_gate : GoodIn wsL_law (wsV RL 105 RX6 yX6_gate wsX6_gate) := goodIn_app (goodIn_of _ (by decide +kernel)) ggL_law_X6_gate
set_option maxRecDepth 20000 in
theorem ggL_law_L_cover : GoodIn wsL_law wsL_cover := goodIn_ca (goodIn_r _ [144, 83, 145, 146, 147, 2, 148, 16, 95, 149, 150, 151, 152, 153, 101, 102, 878, 879, 880, 881, 882, 883, 884, 885, 886, 887, 899, 900, 901, 902, 903, 910, 911, 912, 913, 914, 915, 916, 917, 918, 919, 920, 921] (by decide +kernel) (by decide +kernel)) (goodIn_sub (fun _ h => List.mem_append_right _ h) (by decide +kernel))
set_option maxRecDepth 20000 in
theorem gL_law_L_cover : GoodIn wsL_law (va_wsS RL 106 yL_cover wsL_cover) := goodIn_app (goodIn_of _ (by decide +kernel)) ggL_law_L_cover
set_option maxRecDepth 20000 in
theorem ggL_law_X6_cover : GoodIn wsL_law wsX6_cover := goodIn_r _ [157, 46, 108, 158, 159, 160, 5, 161, 113, 114, 115, 116, 117, 118, 119, 120, 121, 122, 123, 124, 888, 889, 890, 891, 892, 893, 894, 895, 896, 897, 898, 922, 923, 924, 928, 929, 930, 931, 932, 933, 934, 935, 936, 937, 938] (by decide +kernel) (by decide +kernel)
set_option maxRecDepth 20000 in
theorem gL_law_X6_cover : GoodIn wsL_law (wsV RL 108 RX6 yX6_cover wsX6_cover) := goodIn_app (goodIn_of _ (by decide +kernel)) ggL_law_X6_cover
set_option maxRecDepth 20000 in
theorem ggL_law_L_pass : GoodIn wsL_law wsL_pass := goodIn_ca (goodIn_ca (goodIn_r _ [164, 84, 85, 165, 166, 167, 2, 168, 90, 91, 92, 93, 16, 94, 169, 170, 171, 172, 173, 174, 175, 15, 176, 177, 178, 179, 27, 180, 181, 182, 183, 184, 185, 186, 187, 188, 189, 190, 191, 192, 193, 194, 195, 196, 29, 197, 198, 33, 199, 200, 201, 202, 203, 204, 205, 206, 207, 208, 209, 210, 211, 212, 213, 214, 215, 216, 217, 218, 219, 220, 221, 222, 223, 224, 225, 226, 227, 228, 229, 230, 231, 232, 233, 234, 235, 236, 237, 238, 239, 240, 241, 242, 243, 244, 245, 246, 247, 248, 249, 250, 251, 252, 253, 254, 255, 256, 257, 258, 259, 260, 261, 878, 879, 880, 881, 882, 883, 884, 885, 886, 887, 899, 900, 901, 902, 903, 910, 911, 912, 913, 914, 915, 916, 917, 918, 919, 920, 921] (by decide +kernel) (by decide +kernel)) (goodIn_sub (fun _ h => List.mem_append_left _ (List.mem_append_left _ (List.mem_append_right _ h))) (by decide +kernel))) (goodIn_sub (fun _ h => List.mem_append_left _ (List.mem_append_right _ h)) (by decide +kernel))
set_option maxRecDepth 20000 in
theorem gL_law_L_pass : GoodIn wsL_law (va_wsS RL 109 yL_pass wsL_pass) := goodIn_app (goodIn_of _ (by decide +kernel)) ggL_law_L_pass
