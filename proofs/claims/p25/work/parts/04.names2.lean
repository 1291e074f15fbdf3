set_option maxRecDepth 20000 in
theorem ggL_call_L_does : GoodIn wsL_call wsL_does := goodIn_ca (goodIn_ca (goodIn_ca (goodIn_r _ [7, 8, 9, 10, 11, 12, 13, 14, 15, 16, 17, 18, 19, 20, 21, 22, 23, 24, 25, 26, 27, 28, 29, 30, 31, 32, 33, 34, 35, 36, 37, 38, 39, 40, 41, 42, 43, 44, 45, 46, 47, 48, 49, 50, 51, 52, 53, 54, 55, 56, 57, 58, 59, 60, 61, 62, 63, 64, 65, 66, 67, 68, 69, 70, 71, 72, 73, 74, 75, 76, 77, 78, 79, 80, 81, 82, 83, 84, 85, 86, 87, 88, 89, 90, 91, 92, 93, 94, 95, 96, 97, 98, 99, 100, 101, 102, 103, 104, 105, 106, 107, 108, 109, 110, 111, 112, 113, 114, 115, 116, 117, 118, 119, 120, 121, 122, 123, 124, 125, 126, 127, 128, 129, 130, 131, 132, 133, 134, 135, 136, 137, 138, 139, 140, 141, 142, 143, 144, 145, 146, 147, 148, 149, 150, 151, 152, 153, 154, 155, 156, 157, 158, 159, 160, 161, 162, 163, 164, 165, 166, 167, 168, 169, 170, 171, 172, 173, 174, 175, 176, 177, 178, 179, 180, 181, 182, 183, 184, 185, 186, 187, 188, 189, 190, 191, 192, 193, 194, 195, 196, 197, 198, 199, 200, 201, 202, 203, 204, 205, 206, 207, 208, 209, 210, 211, 212] (by decide +kernel) (by decide +kernel)) (goodIn_sub (fun _ h => List.mem_cons_of_mem _ (List.mem_append_left _ (List.mem_append_left _ (List.mem_append_right _ h)))) (by decide +kernel))) (goodIn_sub (fun _ h => List.mem_cons_of_mem _ (List.mem_append_left _ (List.mem_append_right _ h))) (by decide +kernel))) (goodIn_sub (fun _ h => List.mem_cons_of_mem _ (List.mem_append_right _ h)) (by decide +kernel))
set_option maxRecDepth 20000 in
theorem gL_call_L_does : GoodIn wsL_call (va_wsS RL 8 yL_does wsL_does) := goodIn_app (goodIn_of _ (by decide +kernel)) ggL_call_L_does
theorem dL_call_0 : decode cL_call 0 = .ok (.aload_n 0, 1) := by decide +kernel
theorem dL_call_1 : decode cL_call 1 = .ok (.iload_n 1, 1) := by decide +kernel
theorem dL_call_2 : decode cL_call 2 = .ok (.iload_n 2, 1) := by decide +kernel
theorem dL_call_3 : decode cL_call 3 = .ok (.iload_n 3, 1) := by decide +kernel
theorem dL_call_4 : decode cL_call 4 = .ok (.iload 4, 2) := by decide +kernel
theorem dL_call_6 : decode cL_call 6 = .ok (.iload 5, 2) := by decide +kernel
theorem dL_call_8 : decode cL_call 8 = .ok (.invokestatic 8, 3) := by decide +kernel
theorem dL_call_11 : decode cL_call 11 = .ok (.ireturn, 1) := by decide +kernel
theorem dL_call_12 : decode cL_call 12 = .ok (.astore 6, 2) := by decide +kernel
theorem dL_call_14 : decode cL_call 14 = .ok (.bipush (-71), 2) := by decide +kernel
theorem dL_call_16 : decode cL_call 16 = .ok (.ireturn, 1) := by decide +kernel
theorem dL_call_17 : decode cL_call 17 = .ok (.astore 6, 2) := by decide +kernel
theorem dL_call_19 : decode cL_call 19 = .ok (.bipush (-72), 2) := by decide +kernel
theorem dL_call_21 : decode cL_call 21 = .ok (.ireturn, 1) := by decide +kernel
theorem dL_call_22 : decode cL_call 22 = .ok (.astore 6, 2) := by decide +kernel
theorem dL_call_24 : decode cL_call 24 = .ok (.bipush (-73), 2) := by decide +kernel
theorem dL_call_26 : decode cL_call 26 = .ok (.ireturn, 1) := by decide +kernel
set_option maxRecDepth 20000 in
theorem ggL_does_X3_set : GoodIn wsL_does wsX3_set := goodIn_ca (goodIn_r _ [5, 6, 7, 8, 9, 10, 4, 11, 182, 183, 184, 185, 186, 187, 188, 189, 190, 191, 192, 193, 194] (by decide +kernel) (by decide +kernel)) (goodIn_sub (fun _ h => List.mem_cons_of_mem _ (List.mem_append_left _ (List.mem_append_left _ (List.mem_append_right _ h)))) (by decide +kernel))
set_option maxRecDepth 20000 in
theorem gL_does_X3_set : GoodIn wsL_does (wsV RL 20 RX3 yX3_set wsX3_set) := goodIn_app (goodIn_of _ (by decide +kernel)) ggL_does_X3_set
set_option maxRecDepth 20000 in
theorem ggL_does_X3_arrive : GoodIn wsL_does wsX3_arrive := goodIn_ca (goodIn_r _ [15, 16, 17, 8, 18, 19, 20, 4, 21, 22, 23, 24, 25, 26, 27, 28, 29, 30, 31, 182, 183, 184, 185, 186, 187, 188, 189, 190, 191, 192, 193, 194] (by decide +kernel) (by decide +kernel)) (goodIn_sub (fun _ h => List.mem_cons_of_mem _ (List.mem_append_left _ (List.mem_append_right _ h))) (by decide +kernel))
set_option maxRecDepth 20000 in
theorem gL_does_X3_arrive : GoodIn wsL_does (wsV RL 26 RX3 yX3_arrive wsX3_arrive) := goodIn_app (goodIn_of _ (by decide +kernel)) ggL_does_X3_arrive
set_option maxRecDepth 20000 in
theorem ggL_does_X3_arriveRow : GoodIn wsL_does wsX3_arriveRow := goodIn_ca (goodIn_ca (goodIn_r _ [35, 16, 17, 6, 7, 8, 18, 19, 20, 4, 21, 9, 10, 11, 22, 23, 24, 25, 26, 27, 28, 29, 30, 31, 182, 183, 184, 185, 186, 187, 188, 189, 190, 191, 192, 193, 194] (by decide +kernel) (by decide +kernel)) (goodIn_sub (fun _ h => List.mem_cons_of_mem _ (List.mem_append_left _ (List.mem_append_right _ h))) (by decide +kernel))) (goodIn_sub (fun _ h => List.mem_cons_of_mem _ (List.mem_append_left _ (List.mem_append_left _ (List.mem_append_right _ h)))) (by decide +kernel))
set_option maxRecDepth 20000 in
theorem gL_does_X3_arriveRow : GoodIn wsL_does (wsV RL 30 RX3 yX3_arriveRow wsX3_arriveRow) := goodIn_app (goodIn_of _ (by decide +kernel)) ggL_does_X3_arriveRow
set_option maxRecDepth 20000 in
theorem ggL_does_X3_advance : GoodIn wsL_does wsX3_advance := goodIn_ca (goodIn_ca (goodIn_r _ [39, 6, 7, 40, 41, 18, 9, 10, 4, 11, 42, 43, 44, 45, 8, 46, 47, 48, 49, 50, 25, 51, 52, 27, 53, 54, 55, 56, 57, 58, 59, 60, 61, 62, 31, 63, 64, 65, 66, 67, 30, 68, 69, 70, 71, 72, 73, 74, 75, 76, 77, 20, 21, 78, 79, 80, 81, 82, 83, 84, 85, 86, 87, 88, 89, 90, 91, 92, 93, 94, 95, 96, 97, 98, 99, 100, 101, 102, 103, 104, 105, 106, 107, 108, 109, 110, 111, 112, 113, 114, 115, 116, 117, 118, 119, 120, 121, 122, 123, 124, 125, 126, 127, 128, 129, 130, 131, 132, 133, 134, 135, 136, 137, 138, 139, 140, 141, 142, 143, 144, 145, 146, 147, 148, 149, 150, 151, 182, 183, 184, 185, 195, 196, 197, 198, 199, 200, 186, 187, 188, 189, 190, 191, 192, 193, 194, 201, 202, 203, 204, 205] (by decide +kernel) (by decide +kernel)) (goodIn_sub (fun _ h => List.mem_cons_of_mem _ (List.mem_append_left _ (List.mem_append_left _ (List.mem_append_right _ h)))) (by decide +kernel))) (goodIn_sub (fun _ h => List.mem_cons_of_mem _ (List.mem_append_right _ h)) (by decide +kernel))
set_option maxRecDepth 20000 in
theorem gL_does_X3_advance : GoodIn wsL_does (wsV RL 34 RX3 yX3_advance wsX3_advance) := goodIn_app (goodIn_of _ (by decide +kernel)) ggL_does_X3_advance
set_option maxRecDepth 20000 in
theorem ggL_does_X3_has : GoodIn wsL_does wsX3_has := goodIn_ca (goodIn_r _ [155, 16, 17, 46, 19, 20, 4, 21, 156, 89, 90, 71, 91, 73, 182, 183, 184, 185, 201, 202, 203, 204, 205] (by decide +kernel) (by decide +kernel)) (goodIn_sub (fun _ h => List.mem_cons_of_mem _ (List.mem_append_left _ (List.mem_append_right _ h))) (by decide +kernel))
set_option maxRecDepth 20000 in
theorem gL_does_X3_has : GoodIn wsL_does (wsV RL 37 RX3 yX3_has wsX3_has) := goodIn_app (goodIn_of _ (by decide +kernel)) ggL_does_X3_has
set_option maxRecDepth 20000 in
theorem ggL_does_X3_askedAt : GoodIn wsL_does wsX3_askedAt := goodIn_ca (goodIn_r _ [160, 16, 17, 46, 182, 183, 184, 185, 201, 202, 203, 204, 205] (by decide +kernel) (by decide +kernel)) (goodIn_sub (fun _ h => List.mem_cons_of_mem _ (List.mem_append_left _ (List.mem_append_right _ h))) (by decide +kernel))
set_option maxRecDepth 20000 in
theorem gL_does_X3_askedAt : GoodIn wsL_does (wsV RL 41 RX3 yX3_askedAt wsX3_askedAt) := goodIn_app (goodIn_of _ (by decide +kernel)) ggL_does_X3_askedAt
set_option maxRecDepth 20000 in
theorem ggL_does_X3_kindOf : GoodIn wsL_does wsX3_kindOf := goodIn_ca (goodIn_r _ [164, 16, 17, 165, 121, 4, 122, 166, 131, 101, 132] (by decide +kernel) (by decide +kernel)) (goodIn_sub (fun _ h => List.mem_cons_of_mem _ (List.mem_append_left _ (List.mem_append_right _ h))) (by decide +kernel))
set_option maxRecDepth 20000 in
theorem gL_does_X3_kindOf : GoodIn wsL_does (wsV RL 44 RX3 yX3_kindOf wsX3_kindOf) := goodIn_app (goodIn_of _ (by decide +kernel)) ggL_does_X3_kindOf
set_option maxRecDepth 20000 in
theorem ggL_does_X3_need : GoodIn wsL_does wsX3_need := goodIn_ca (goodIn_r _ [170, 16, 17, 165, 121, 4, 122, 171, 134, 101, 135, 130, 131, 132, 172, 128, 129] (by decide +kernel) (by decide +kernel)) (goodIn_sub (fun _ h => List.mem_cons_of_mem _ (List.mem_append_left _ (List.mem_append_right _ h))) (by decide +kernel))
set_option maxRecDepth 20000 in
theorem gL_does_X3_need : GoodIn wsL_does (wsV RL 47 RX3 yX3_need wsX3_need) := goodIn_app (goodIn_of _ (by decide +kernel)) ggL_does_X3_need
set_option maxRecDepth 20000 in
theorem ggL_does_X3_isWhole : GoodIn wsL_does wsX3_isWhole := goodIn_ca (goodIn_r _ [176, 16, 17, 46, 165, 121, 4, 122, 177, 111, 112, 71, 113, 73, 182, 183, 184, 185, 201, 202, 203, 204, 205] (by decide +kernel) (by decide +kernel)) (goodIn_sub (fun _ h => List.mem_cons_of_mem _ (List.mem_append_left _ (List.mem_append_right _ h))) (by decide +kernel))
set_option maxRecDepth 20000 in
theorem gL_does_X3_isWhole : GoodIn wsL_does (wsV RL 51 RX3 yX3_isWhole wsX3_isWhole) := goodIn_app (goodIn_of _ (by decide +kernel)) ggL_does_X3_isWhole
set_option maxRecDepth 20000 in
theorem ggL_does_X3_fate : GoodIn wsL_does wsX3_fate := goodIn_ca (goodIn_r _ [181, 16, 17, 47, 165, 121, 4, 122, 182, 183, 184, 185, 195, 196, 197, 198, 199, 200] (by decide +kernel) (by decide +kernel)) (goodIn_sub (fun _ h => List.mem_cons_of_mem _ (List.mem_append_left _ (List.mem_append_right _ h))) (by decide +kernel))
set_option maxRecDepth 20000 in
theorem gL_does_X3_fate : GoodIn wsL_does (wsV RL 54 RX3 yX3_fate wsX3_fate) := goodIn_app (goodIn_of _ (by decide +kernel)) ggL_does_X3_fate
theorem dL_does_0 : decode cL_does 0 = .ok (.iload_n 1, 1) := by decide +kernel
theorem dL_does_1 : decode cL_does 1 = .ok (.tableswitch 138 0 8 #[51, 63, 69, 76, 82, 96, 102, 108, 124], 51) := by decide +kernel
theorem dL_does_52 : decode cL_does 52 = .ok (.aload_n 0, 1) := by decide +kernel
theorem dL_does_53 : decode cL_does 53 = .ok (.iload_n 2, 1) := by decide +kernel
theorem dL_does_54 : decode cL_does 54 = .ok (.iload_n 3, 1) := by decide +kernel
theorem dL_does_55 : decode cL_does 55 = .ok (.iload 4, 2) := by decide +kernel
theorem dL_does_57 : decode cL_does 57 = .ok (.iload 5, 2) := by decide +kernel
theorem dL_does_59 : decode cL_does 59 = .ok (.invokevirtual 20, 3) := by decide +kernel
theorem dL_does_62 : decode cL_does 62 = .ok (.iconst 0, 1) := by decide +kernel
theorem dL_does_63 : decode cL_does 63 = .ok (.ireturn, 1) := by decide +kernel
theorem dL_does_64 : decode cL_does 64 = .ok (.aload_n 0, 1) := by decide +kernel
theorem dL_does_65 : decode cL_does 65 = .ok (.iload_n 2, 1) := by decide +kernel
theorem dL_does_66 : decode cL_does 66 = .ok (.invokevirtual 26, 3) := by decide +kernel
theorem dL_does_69 : decode cL_does 69 = .ok (.ireturn, 1) := by decide +kernel
theorem dL_does_70 : decode cL_does 70 = .ok (.aload_n 0, 1) := by decide +kernel
theorem dL_does_71 : decode cL_does 71 = .ok (.iload_n 2, 1) := by decide +kernel
theorem dL_does_72 : decode cL_does 72 = .ok (.iload_n 3, 1) := by decide +kernel
theorem dL_does_73 : decode cL_does 73 = .ok (.invokevirtual 30, 3) := by decide +kernel
theorem dL_does_76 : decode cL_does 76 = .ok (.ireturn, 1) := by decide +kernel
theorem dL_does_77 : decode cL_does 77 = .ok (.aload_n 0, 1) := by decide +kernel
theorem dL_does_78 : decode cL_does 78 = .ok (.iload_n 2, 1) := by decide +kernel
theorem dL_does_79 : decode cL_does 79 = .ok (.invokevirtual 34, 3) := by decide +kernel
theorem dL_does_82 : decode cL_does 82 = .ok (.ireturn, 1) := by decide +kernel
theorem dL_does_83 : decode cL_does 83 = .ok (.aload_n 0, 1) := by decide +kernel
theorem dL_does_84 : decode cL_does 84 = .ok (.iload_n 2, 1) := by decide +kernel
theorem dL_does_85 : decode cL_does 85 = .ok (.invokevirtual 37, 3) := by decide +kernel
theorem dL_does_88 : decode cL_does 88 = .ok (.ifCond .eq 7, 3) := by decide +kernel
theorem dL_does_91 : decode cL_does 91 = .ok (.iconst 1, 1) := by decide +kernel
theorem dL_does_92 : decode cL_does 92 = .ok (.goto 4, 3) := by decide +kernel
theorem dL_does_95 : decode cL_does 95 = .ok (.iconst 0, 1) := by decide +kernel
theorem dL_does_96 : decode cL_does 96 = .ok (.ireturn, 1) := by decide +kernel
theorem dL_does_97 : decode cL_does 97 = .ok (.aload_n 0, 1) := by decide +kernel
theorem dL_does_98 : decode cL_does 98 = .ok (.iload_n 2, 1) := by decide +kernel
theorem dL_does_99 : decode cL_does 99 = .ok (.invokevirtual 41, 3) := by decide +kernel
theorem dL_does_102 : decode cL_does 102 = .ok (.ireturn, 1) := by decide +kernel
theorem dL_does_103 : decode cL_does 103 = .ok (.aload_n 0, 1) := by decide +kernel
theorem dL_does_104 : decode cL_does 104 = .ok (.iload_n 2, 1) := by decide +kernel
theorem dL_does_105 : decode cL_does 105 = .ok (.invokevirtual 44, 3) := by decide +kernel
theorem dL_does_108 : decode cL_does 108 = .ok (.ireturn, 1) := by decide +kernel
theorem dL_does_109 : decode cL_does 109 = .ok (.aload_n 0, 1) := by decide +kernel
theorem dL_does_110 : decode cL_does 110 = .ok (.iload_n 2, 1) := by decide +kernel
theorem dL_does_111 : decode cL_does 111 = .ok (.iload_n 3, 1) := by decide +kernel
theorem dL_does_112 : decode cL_does 112 = .ok (.iconst 1, 1) := by decide +kernel
theorem dL_does_113 : decode cL_does 113 = .ok (.if_icmp .ne 7, 3) := by decide +kernel
theorem dL_does_116 : decode cL_does 116 = .ok (.iconst 1, 1) := by decide +kernel
theorem dL_does_117 : decode cL_does 117 = .ok (.goto 4, 3) := by decide +kernel
theorem dL_does_120 : decode cL_does 120 = .ok (.iconst 0, 1) := by decide +kernel
theorem dL_does_121 : decode cL_does 121 = .ok (.invokevirtual 47, 3) := by decide +kernel
theorem dL_does_124 : decode cL_does 124 = .ok (.ireturn, 1) := by decide +kernel
theorem dL_does_125 : decode cL_does 125 = .ok (.aload_n 0, 1) := by decide +kernel
theorem dL_does_126 : decode cL_does 126 = .ok (.iload_n 2, 1) := by decide +kernel
theorem dL_does_127 : decode cL_does 127 = .ok (.invokevirtual 51, 3) := by decide +kernel
theorem dL_does_130 : decode cL_does 130 = .ok (.ifCond .eq 7, 3) := by decide +kernel
theorem dL_does_133 : decode cL_does 133 = .ok (.iconst 1, 1) := by decide +kernel
theorem dL_does_134 : decode cL_does 134 = .ok (.goto 4, 3) := by decide +kernel
theorem dL_does_137 : decode cL_does 137 = .ok (.iconst 0, 1) := by decide +kernel
theorem dL_does_138 : decode cL_does 138 = .ok (.ireturn, 1) := by decide +kernel
theorem dL_does_139 : decode cL_does 139 = .ok (.aload_n 0, 1) := by decide +kernel
theorem dL_does_140 : decode cL_does 140 = .ok (.iload_n 2, 1) := by decide +kernel
theorem dL_does_141 : decode cL_does 141 = .ok (.invokevirtual 54, 3) := by decide +kernel
theorem dL_does_144 : decode cL_does 144 = .ok (.ireturn, 1) := by decide +kernel
set_option maxRecDepth 20000 in
theorem ggL_all_X3_tick : GoodIn wsL_all wsX3_tick := goodIn_r _ [15, 16, 120, 121, 122, 123] (by decide +kernel) (by decide +kernel)
set_option maxRecDepth 20000 in
theorem gL_all_X3_tick : GoodIn wsL_all (wsV RL 57 RX3 yX3_tick wsX3_tick) := goodIn_app (goodIn_of _ (by decide +kernel)) ggL_all_X3_tick
set_option maxRecDepth 20000 in
theorem ggL_all_X3_waiting : GoodIn wsL_all wsX3_waiting := goodIn_r _ [20, 21, 120, 121, 122, 123, 124, 125, 126, 127, 128, 129, 130, 131, 132] (by decide +kernel) (by decide +kernel)
set_option maxRecDepth 20000 in
theorem gL_all_X3_waiting : GoodIn wsL_all (wsV RL 63 RX3 yX3_waiting wsX3_waiting) := goodIn_app (goodIn_of _ (by decide +kernel)) ggL_all_X3_waiting
set_option maxRecDepth 20000 in
theorem ggL_all_X3_lost : GoodIn wsL_all wsX3_lost := goodIn_r _ [25, 21, 120, 121, 122, 123, 124, 125, 126, 127, 128, 129, 130, 131, 132] (by decide +kernel) (by decide +kernel)
set_option maxRecDepth 20000 in
theorem gL_all_X3_lost : GoodIn wsL_all (wsV RL 68 RX3 yX3_lost wsX3_lost) := goodIn_app (goodIn_of _ (by decide +kernel)) ggL_all_X3_lost
set_option maxRecDepth 20000 in
theorem ggL_all_X3_isPolled : GoodIn wsL_all wsX3_isPolled := goodIn_r _ [29, 21, 120, 121, 122, 123, 124, 125, 126, 127, 128, 129, 130, 131, 132] (by decide +kernel) (by decide +kernel)
set_option maxRecDepth 20000 in
theorem gL_all_X3_isPolled : GoodIn wsL_all (wsV RL 73 RX3 yX3_isPolled wsX3_isPolled) := goodIn_app (goodIn_of _ (by decide +kernel)) ggL_all_X3_isPolled
set_option maxRecDepth 20000 in
theorem ggL_all_X3_asked : GoodIn wsL_all wsX3_asked := goodIn_r _ [33, 34, 120, 121, 122, 123, 133, 134, 135, 136, 137] (by decide +kernel) (by decide +kernel)
set_option maxRecDepth 20000 in
theorem gL_all_X3_asked : GoodIn wsL_all (wsV RL 79 RX3 yX3_asked wsX3_asked) := goodIn_app (goodIn_of _ (by decide +kernel)) ggL_all_X3_asked
set_option maxRecDepth 20000 in
theorem ggL_all_X3_next : GoodIn wsL_all wsX3_next := goodIn_r _ [38, 39, 120, 121, 122, 123, 138, 139, 140, 141, 142, 143] (by decide +kernel) (by decide +kernel)
set_option maxRecDepth 20000 in
theorem gL_all_X3_next : GoodIn wsL_all (wsV RL 84 RX3 yX3_next wsX3_next) := goodIn_app (goodIn_of _ (by decide +kernel)) ggL_all_X3_next
set_option maxRecDepth 20000 in
theorem ggL_all_X3_turn : GoodIn wsL_all wsX3_turn := goodIn_r _ [43, 39, 120, 121, 122, 123, 138, 139, 140, 141, 142, 143] (by decide +kernel) (by decide +kernel)
set_option maxRecDepth 20000 in
theorem gL_all_X3_turn : GoodIn wsL_all (wsV RL 89 RX3 yX3_turn wsX3_turn) := goodIn_app (goodIn_of _ (by decide +kernel)) ggL_all_X3_turn
set_option maxRecDepth 20000 in
theorem ggL_all_X3_fill : GoodIn wsL_all wsX3_fill := goodIn_r _ [47, 39, 48, 49, 50, 51, 52, 53, 54, 55, 56, 57, 58, 59, 60, 120, 121, 122, 123, 138, 139, 140, 141, 142, 143, 133, 134, 135, 136, 137] (by decide +kernel) (by decide +kernel)
set_option maxRecDepth 20000 in
theorem gL_all_X3_fill : GoodIn wsL_all (wsV RL 94 RX3 yX3_fill wsX3_fill) := goodIn_app (goodIn_of _ (by decide +kernel)) ggL_all_X3_fill
set_option maxRecDepth 20000 in
theorem ggL_all_X3_shown : GoodIn wsL_all wsX3_shown := goodIn_r _ [64, 39, 120, 121, 122, 123, 138, 139, 140, 141, 142, 143] (by decide +kernel) (by decide +kernel)
set_option maxRecDepth 20000 in
theorem gL_all_X3_shown : GoodIn wsL_all (wsV RL 97 RX3 yX3_shown wsX3_shown) := goodIn_app (goodIn_of _ (by decide +kernel)) ggL_all_X3_shown
set_option maxRecDepth 20000 in
theorem ggL_all_X3_couldBe : GoodIn wsL_all wsX3_couldBe := goodIn_r _ [68, 39, 69, 70, 71, 51, 72, 53, 54, 55, 56, 57, 58, 59, 60, 73, 74, 75, 76, 77, 78, 79, 80, 81, 82, 83, 84, 85, 86, 87, 88, 89, 120, 121, 122, 123, 138, 139, 140, 141, 142, 143, 133, 134, 135, 136, 137] (by decide +kernel) (by decide +kernel)
set_option maxRecDepth 20000 in
theorem gL_all_X3_couldBe : GoodIn wsL_all (wsV RL 100 RX3 yX3_couldBe wsX3_couldBe) := goodIn_app (goodIn_of _ (by decide +kernel)) ggL_all_X3_couldBe
set_option maxRecDepth 20000 in
theorem ggL_all_X3_gap : GoodIn wsL_all wsX3_gap := goodIn_r _ [93, 39, 94, 95, 96, 51, 97, 98, 99, 53, 120, 121, 122, 123, 138, 139, 140, 141, 142, 143] (by decide +kernel) (by decide +kernel)
set_option maxRecDepth 20000 in
theorem gL_all_X3_gap : GoodIn wsL_all (wsV RL 105 RX3 yX3_gap wsX3_gap) := goodIn_app (goodIn_of _ (by decide +kernel)) ggL_all_X3_gap
set_option maxRecDepth 20000 in
theorem ggL_all_X3_has : GoodIn wsL_all wsX3_has := goodIn_ca (goodIn_r _ [103, 104, 105, 34, 106, 107, 14, 108, 109, 110, 111, 58, 112, 60, 120, 121, 122, 123, 133, 134, 135, 136, 137] (by decide +kernel) (by decide +kernel)) (goodIn_sub (fun _ h => List.mem_cons_of_mem _ (List.mem_append_right _ h)) (by decide +kernel))
set_option maxRecDepth 20000 in
theorem gL_all_X3_has : GoodIn wsL_all (wsV RL 37 RX3 yX3_has wsX3_has) := goodIn_app (goodIn_of _ (by decide +kernel)) ggL_all_X3_has
set_option maxRecDepth 20000 in
theorem ggL_all_X3_fate : GoodIn wsL_all wsX3_fate := goodIn_ca (goodIn_r _ [116, 104, 105, 39, 117, 118, 14, 119, 120, 121, 122, 123, 138, 139, 140, 141, 142, 143] (by decide +kernel) (by decide +kernel)) (goodIn_sub (fun _ h => List.mem_cons_of_mem _ (List.mem_append_right _ h)) (by decide +kernel))
set_option maxRecDepth 20000 in
theorem gL_all_X3_fate : GoodIn wsL_all (wsV RL 54 RX3 yX3_fate wsX3_fate) := goodIn_app (goodIn_of _ (by decide +kernel)) ggL_all_X3_fate
theorem dL_all_0 : decode cL_all 0 = .ok (.aload_n 0, 1) := by decide +kernel
theorem dL_all_1 : decode cL_all 1 = .ok (.invokevirtual 57, 3) := by decide +kernel
theorem dL_all_4 : decode cL_all 4 = .ok (.i2l, 1) := by decide +kernel
theorem dL_all_5 : decode cL_all 5 = .ok (.ldc2_w 61, 3) := by decide +kernel
theorem dL_all_8 : decode cL_all 8 = .ok (.lmul, 1) := by decide +kernel
theorem dL_all_9 : decode cL_all 9 = .ok (.aload_n 0, 1) := by decide +kernel
theorem dL_all_10 : decode cL_all 10 = .ok (.invokevirtual 63, 3) := by decide +kernel
theorem dL_all_13 : decode cL_all 13 = .ok (.i2l, 1) := by decide +kernel
theorem dL_all_14 : decode cL_all 14 = .ok (.ladd, 1) := by decide +kernel
theorem dL_all_15 : decode cL_all 15 = .ok (.ldc2_w 66, 3) := by decide +kernel
theorem dL_all_18 : decode cL_all 18 = .ok (.lmul, 1) := by decide +kernel
theorem dL_all_19 : decode cL_all 19 = .ok (.aload_n 0, 1) := by decide +kernel
theorem dL_all_20 : decode cL_all 20 = .ok (.invokevirtual 68, 3) := by decide +kernel
theorem dL_all_23 : decode cL_all 23 = .ok (.i2l, 1) := by decide +kernel
theorem dL_all_24 : decode cL_all 24 = .ok (.ladd, 1) := by decide +kernel
theorem dL_all_25 : decode cL_all 25 = .ok (.ldc2_w 71, 3) := by decide +kernel
theorem dL_all_28 : decode cL_all 28 = .ok (.lmul, 1) := by decide +kernel
theorem dL_all_29 : decode cL_all 29 = .ok (.aload_n 0, 1) := by decide +kernel
theorem dL_all_30 : decode cL_all 30 = .ok (.invokevirtual 73, 3) := by decide +kernel
theorem dL_all_33 : decode cL_all 33 = .ok (.ifCond .eq 7, 3) := by decide +kernel
theorem dL_all_36 : decode cL_all 36 = .ok (.iconst 1, 1) := by decide +kernel
theorem dL_all_37 : decode cL_all 37 = .ok (.goto 4, 3) := by decide +kernel
theorem dL_all_40 : decode cL_all 40 = .ok (.iconst 0, 1) := by decide +kernel
theorem dL_all_41 : decode cL_all 41 = .ok (.i2l, 1) := by decide +kernel
theorem dL_all_42 : decode cL_all 42 = .ok (.ladd, 1) := by decide +kernel
theorem dL_all_43 : decode cL_all 43 = .ok (.lstore_n 1, 1) := by decide +kernel
theorem dL_all_44 : decode cL_all 44 = .ok (.lload_n 1, 1) := by decide +kernel
theorem dL_all_45 : decode cL_all 45 = .ok (.ldc2_w 77, 3) := by decide +kernel
theorem dL_all_48 : decode cL_all 48 = .ok (.lmul, 1) := by decide +kernel
theorem dL_all_49 : decode cL_all 49 = .ok (.aload_n 0, 1) := by decide +kernel
theorem dL_all_50 : decode cL_all 50 = .ok (.invokevirtual 79, 3) := by decide +kernel
theorem dL_all_53 : decode cL_all 53 = .ok (.i2l, 1) := by decide +kernel
theorem dL_all_54 : decode cL_all 54 = .ok (.ladd, 1) := by decide +kernel
theorem dL_all_55 : decode cL_all 55 = .ok (.ldc2_w 82, 3) := by decide +kernel
theorem dL_all_58 : decode cL_all 58 = .ok (.lmul, 1) := by decide +kernel
theorem dL_all_59 : decode cL_all 59 = .ok (.aload_n 0, 1) := by decide +kernel
theorem dL_all_60 : decode cL_all 60 = .ok (.invokevirtual 84, 3) := by decide +kernel
theorem dL_all_63 : decode cL_all 63 = .ok (.i2l, 1) := by decide +kernel
theorem dL_all_64 : decode cL_all 64 = .ok (.ladd, 1) := by decide +kernel
theorem dL_all_65 : decode cL_all 65 = .ok (.ldc2_w 87, 3) := by decide +kernel
theorem dL_all_68 : decode cL_all 68 = .ok (.lmul, 1) := by decide +kernel
theorem dL_all_69 : decode cL_all 69 = .ok (.aload_n 0, 1) := by decide +kernel
theorem dL_all_70 : decode cL_all 70 = .ok (.invokevirtual 89, 3) := by decide +kernel
theorem dL_all_73 : decode cL_all 73 = .ok (.i2l, 1) := by decide +kernel
theorem dL_all_74 : decode cL_all 74 = .ok (.ladd, 1) := by decide +kernel
theorem dL_all_75 : decode cL_all 75 = .ok (.ldc2_w 92, 3) := by decide +kernel
theorem dL_all_78 : decode cL_all 78 = .ok (.lmul, 1) := by decide +kernel
theorem dL_all_79 : decode cL_all 79 = .ok (.aload_n 0, 1) := by decide +kernel
theorem dL_all_80 : decode cL_all 80 = .ok (.invokevirtual 94, 3) := by decide +kernel
theorem dL_all_83 : decode cL_all 83 = .ok (.i2l, 1) := by decide +kernel
theorem dL_all_84 : decode cL_all 84 = .ok (.ladd, 1) := by decide +kernel
theorem dL_all_85 : decode cL_all 85 = .ok (.lstore_n 1, 1) := by decide +kernel
theorem dL_all_86 : decode cL_all 86 = .ok (.lload_n 1, 1) := by decide +kernel
theorem dL_all_87 : decode cL_all 87 = .ok (.ldc2_w 92, 3) := by decide +kernel
theorem dL_all_90 : decode cL_all 90 = .ok (.lmul, 1) := by decide +kernel
theorem dL_all_91 : decode cL_all 91 = .ok (.aload_n 0, 1) := by decide +kernel
theorem dL_all_92 : decode cL_all 92 = .ok (.invokevirtual 97, 3) := by decide +kernel
theorem dL_all_95 : decode cL_all 95 = .ok (.i2l, 1) := by decide +kernel
theorem dL_all_96 : decode cL_all 96 = .ok (.ladd, 1) := by decide +kernel
theorem dL_all_97 : decode cL_all 97 = .ok (.ldc2_w 92, 3) := by decide +kernel
theorem dL_all_100 : decode cL_all 100 = .ok (.lmul, 1) := by decide +kernel
theorem dL_all_101 : decode cL_all 101 = .ok (.aload_n 0, 1) := by decide +kernel
theorem dL_all_102 : decode cL_all 102 = .ok (.invokevirtual 100, 3) := by decide +kernel
theorem dL_all_105 : decode cL_all 105 = .ok (.i2l, 1) := by decide +kernel
theorem dL_all_106 : decode cL_all 106 = .ok (.ladd, 1) := by decide +kernel
theorem dL_all_107 : decode cL_all 107 = .ok (.ldc2_w 103, 3) := by decide +kernel
theorem dL_all_110 : decode cL_all 110 = .ok (.lmul, 1) := by decide +kernel
theorem dL_all_111 : decode cL_all 111 = .ok (.aload_n 0, 1) := by decide +kernel
theorem dL_all_112 : decode cL_all 112 = .ok (.invokevirtual 105, 3) := by decide +kernel
theorem dL_all_115 : decode cL_all 115 = .ok (.i2l, 1) := by decide +kernel
theorem dL_all_116 : decode cL_all 116 = .ok (.ladd, 1) := by decide +kernel
theorem dL_all_117 : decode cL_all 117 = .ok (.lstore_n 1, 1) := by decide +kernel
theorem dL_all_118 : decode cL_all 118 = .ok (.iconst 0, 1) := by decide +kernel
theorem dL_all_119 : decode cL_all 119 = .ok (.istore_n 3, 1) := by decide +kernel
theorem dL_all_120 : decode cL_all 120 = .ok (.iload_n 3, 1) := by decide +kernel
theorem dL_all_121 : decode cL_all 121 = .ok (.sipush 300, 3) := by decide +kernel
theorem dL_all_124 : decode cL_all 124 = .ok (.if_icmp .ge 30, 3) := by decide +kernel
theorem dL_all_127 : decode cL_all 127 = .ok (.lload_n 1, 1) := by decide +kernel
theorem dL_all_128 : decode cL_all 128 = .ok (.ldc2_w 108, 3) := by decide +kernel
theorem dL_all_131 : decode cL_all 131 = .ok (.lmul, 1) := by decide +kernel
theorem dL_all_132 : decode cL_all 132 = .ok (.aload_n 0, 1) := by decide +kernel
theorem dL_all_133 : decode cL_all 133 = .ok (.iload_n 3, 1) := by decide +kernel
theorem dL_all_134 : decode cL_all 134 = .ok (.invokevirtual 37, 3) := by decide +kernel
theorem dL_all_137 : decode cL_all 137 = .ok (.ifCond .eq 7, 3) := by decide +kernel
theorem dL_all_140 : decode cL_all 140 = .ok (.iconst 1, 1) := by decide +kernel
theorem dL_all_141 : decode cL_all 141 = .ok (.goto 4, 3) := by decide +kernel
theorem dL_all_144 : decode cL_all 144 = .ok (.iconst 0, 1) := by decide +kernel
theorem dL_all_145 : decode cL_all 145 = .ok (.i2l, 1) := by decide +kernel
theorem dL_all_146 : decode cL_all 146 = .ok (.ladd, 1) := by decide +kernel
theorem dL_all_147 : decode cL_all 147 = .ok (.lstore_n 1, 1) := by decide +kernel
theorem dL_all_148 : decode cL_all 148 = .ok (.iinc 3 7, 3) := by decide +kernel
theorem dL_all_151 : decode cL_all 151 = .ok (.goto (-31), 3) := by decide +kernel
theorem dL_all_154 : decode cL_all 154 = .ok (.iconst 0, 1) := by decide +kernel
theorem dL_all_155 : decode cL_all 155 = .ok (.istore_n 3, 1) := by decide +kernel
theorem dL_all_156 : decode cL_all 156 = .ok (.iload_n 3, 1) := by decide +kernel
theorem dL_all_157 : decode cL_all 157 = .ok (.bipush 100, 2) := by decide +kernel
theorem dL_all_159 : decode cL_all 159 = .ok (.if_icmp .ge 22, 3) := by decide +kernel
theorem dL_all_162 : decode cL_all 162 = .ok (.lload_n 1, 1) := by decide +kernel
theorem dL_all_163 : decode cL_all 163 = .ok (.ldc2_w 110, 3) := by decide +kernel
theorem dL_all_166 : decode cL_all 166 = .ok (.lmul, 1) := by decide +kernel
theorem dL_all_167 : decode cL_all 167 = .ok (.aload_n 0, 1) := by decide +kernel
theorem dL_all_168 : decode cL_all 168 = .ok (.iload_n 3, 1) := by decide +kernel
theorem dL_all_169 : decode cL_all 169 = .ok (.invokevirtual 54, 3) := by decide +kernel
theorem dL_all_172 : decode cL_all 172 = .ok (.i2l, 1) := by decide +kernel
theorem dL_all_173 : decode cL_all 173 = .ok (.ladd, 1) := by decide +kernel
theorem dL_all_174 : decode cL_all 174 = .ok (.lstore_n 1, 1) := by decide +kernel
theorem dL_all_175 : decode cL_all 175 = .ok (.iinc 3 3, 3) := by decide +kernel
theorem dL_all_178 : decode cL_all 178 = .ok (.goto (-22), 3) := by decide +kernel
theorem dL_all_181 : decode cL_all 181 = .ok (.lload_n 1, 1) := by decide +kernel
theorem dL_all_182 : decode cL_all 182 = .ok (.lreturn, 1) := by decide +kernel
set_option maxRecDepth 20000 in
theorem ggL_refused_L_all : GoodIn wsL_refused wsL_all := goodIn_ca (goodIn_r _ [4, 5, 6, 7, 8, 9, 10, 11, 12, 13, 14, 15, 16, 17, 18, 19, 20, 21, 22, 23, 24, 25, 26, 27, 28, 29, 30, 31, 32, 33, 34, 35, 36, 37, 38, 39, 40, 41, 42, 43, 44, 45, 46, 47, 48, 49, 50, 51, 52, 53, 54, 55, 56, 57, 58, 59, 60, 61, 62, 63, 64, 65, 66, 67, 68, 69, 70, 71, 72, 73, 74, 75, 76, 77, 78, 79, 80, 81, 82, 83, 84, 85, 86, 87, 88, 89, 90, 91, 92, 93, 94, 95, 96, 97, 98, 99, 100, 101, 102, 103, 104, 105, 106, 107, 108, 109, 110, 111, 112, 113, 114, 115, 116, 117, 118, 119, 120, 121, 122, 123, 262, 263, 264, 265, 266, 267, 268, 269, 270, 271, 272, 273, 274, 275, 276, 277, 278, 279, 280, 281, 282, 283, 284, 285] (by decide +kernel) (by decide +kernel)) (goodIn_sub (fun _ h => List.mem_cons_of_mem _ (List.mem_append_left _ (List.mem_append_left _ (List.mem_append_right _ h)))) (by decide +kernel))
set_option maxRecDepth 20000 in
theorem gL_refused_L_all : GoodIn wsL_refused (va_wsS RL 112 yL_all wsL_all) := goodIn_app (goodIn_of _ (by decide +kernel)) ggL_refused_L_all
set_option maxRecDepth 20000 in
theorem ggL_refused_L_call : GoodIn wsL_refused wsL_call := goodIn_ca (goodIn_ca (goodIn_ca (goodIn_r _ [126, 127, 128, 129, 130, 131, 3, 132, 133, 134, 135, 18, 136, 137, 138, 25, 139, 140, 141, 142, 143, 144, 145, 108, 109, 20, 110, 111, 112, 146, 147, 148, 149, 150, 151, 152, 153, 154, 155, 156, 157, 158, 159, 160, 161, 162, 163, 164, 165, 166, 167, 168, 169, 38, 43, 170, 171, 172, 173, 174, 175, 176, 177, 178, 179, 180, 181, 182, 183, 184, 185, 186, 187, 188, 189, 190, 191, 192, 62, 193, 64, 194, 195, 196, 197, 198, 199, 200, 201, 202, 203, 204, 205, 206, 207, 208, 114, 115, 116, 209, 210, 211, 212, 213, 214, 215, 216, 217, 55, 218, 103, 102, 219, 220, 221, 222, 58, 59, 60, 61, 63, 223, 224, 225, 226, 57, 227, 228, 122, 123, 229, 230, 231, 232, 77, 78, 79, 80, 81, 82, 91, 92, 93, 233, 234, 235, 236, 87, 88, 89, 90, 237, 238, 239, 240, 241, 53, 54, 56, 104, 105, 106, 107, 113, 242, 243, 244, 245, 246, 247, 248, 249, 121, 250, 251, 252, 253, 254, 255, 256, 257, 258, 259, 260, 261, 117, 118, 119, 120, 262, 263, 264, 265, 266, 267, 268, 269, 270, 271, 272, 273, 274, 280, 281, 282, 283, 284, 285, 275, 276, 277, 278, 279] (by decide +kernel) (by decide +kernel)) (goodIn_sub (fun _ h => List.mem_cons_of_mem _ (List.mem_append_left _ (List.mem_append_right _ h))) (by decide +kernel))) (goodIn_sub (fun _ h => List.mem_cons_of_mem _ (List.mem_append_left _ (List.mem_append_left _ (List.mem_append_right _ h)))) (by decide +kernel))) (goodIn_sub (fun _ h => List.mem_cons_of_mem _ (List.mem_append_right _ h)) (by decide +kernel))
set_option maxRecDepth 20000 in
theorem gL_refused_L_call : GoodIn wsL_refused (va_wsS RL 116 yL_call wsL_call) := goodIn_app (goodIn_of _ (by decide +kernel)) ggL_refused_L_call
set_option maxRecDepth 20000 in
theorem ggL_refused_X3_asked : GoodIn wsL_refused wsX3_asked := goodIn_r _ [37, 38, 262, 263, 264, 265, 275, 276, 277, 278, 279] (by decide +kernel) (by decide +kernel)
set_option maxRecDepth 20000 in
theorem gL_refused_X3_asked : GoodIn wsL_refused (wsV RL 79 RX3 yX3_asked wsX3_asked) := goodIn_app (goodIn_of _ (by decide +kernel)) ggL_refused_X3_asked
theorem dL_refused_0 : decode cL_refused 0 = .ok (.aload_n 0, 1) := by decide +kernel
theorem dL_refused_1 : decode cL_refused 1 = .ok (.invokestatic 112, 3) := by decide +kernel
theorem dL_refused_4 : decode cL_refused 4 = .ok (.lstore_n 1, 1) := by decide +kernel
theorem dL_refused_5 : decode cL_refused 5 = .ok (.aload_n 0, 1) := by decide +kernel
theorem dL_refused_6 : decode cL_refused 6 = .ok (.iconst 0, 1) := by decide +kernel
theorem dL_refused_7 : decode cL_refused 7 = .ok (.iconst 0, 1) := by decide +kernel
theorem dL_refused_8 : decode cL_refused 8 = .ok (.iconst 1, 1) := by decide +kernel
theorem dL_refused_9 : decode cL_refused 9 = .ok (.iconst 1, 1) := by decide +kernel
theorem dL_refused_10 : decode cL_refused 10 = .ok (.iconst 1, 1) := by decide +kernel
theorem dL_refused_11 : decode cL_refused 11 = .ok (.invokestatic 116, 3) := by decide +kernel
theorem dL_refused_14 : decode cL_refused 14 = .ok (.bipush (-72), 2) := by decide +kernel
theorem dL_refused_16 : decode cL_refused 16 = .ok (.if_icmp .ne 273, 3) := by decide +kernel
theorem dL_refused_19 : decode cL_refused 19 = .ok (.aload_n 0, 1) := by decide +kernel
theorem dL_refused_20 : decode cL_refused 20 = .ok (.iconst 0, 1) := by decide +kernel
theorem dL_refused_21 : decode cL_refused 21 = .ok (.iconst 5, 1) := by decide +kernel
theorem dL_refused_22 : decode cL_refused 22 = .ok (.bipush 33, 2) := by decide +kernel
theorem dL_refused_24 : decode cL_refused 24 = .ok (.iconst 1, 1) := by decide +kernel
theorem dL_refused_25 : decode cL_refused 25 = .ok (.iconst 1, 1) := by decide +kernel
theorem dL_refused_26 : decode cL_refused 26 = .ok (.invokestatic 116, 3) := by decide +kernel
theorem dL_refused_29 : decode cL_refused 29 = .ok (.bipush (-72), 2) := by decide +kernel
theorem dL_refused_31 : decode cL_refused 31 = .ok (.if_icmp .ne 258, 3) := by decide +kernel
theorem dL_refused_34 : decode cL_refused 34 = .ok (.aload_n 0, 1) := by decide +kernel
theorem dL_refused_35 : decode cL_refused 35 = .ok (.iconst 0, 1) := by decide +kernel
theorem dL_refused_36 : decode cL_refused 36 = .ok (.iconst 5, 1) := by decide +kernel
theorem dL_refused_37 : decode cL_refused 37 = .ok (.iconst 5, 1) := by decide +kernel
theorem dL_refused_38 : decode cL_refused 38 = .ok (.bipush 51, 2) := by decide +kernel
theorem dL_refused_40 : decode cL_refused 40 = .ok (.iconst 1, 1) := by decide +kernel
theorem dL_refused_41 : decode cL_refused 41 = .ok (.invokestatic 116, 3) := by decide +kernel
theorem dL_refused_44 : decode cL_refused 44 = .ok (.bipush (-72), 2) := by decide +kernel
theorem dL_refused_46 : decode cL_refused 46 = .ok (.if_icmp .ne 243, 3) := by decide +kernel
theorem dL_refused_49 : decode cL_refused 49 = .ok (.aload_n 0, 1) := by decide +kernel
theorem dL_refused_50 : decode cL_refused 50 = .ok (.iconst 0, 1) := by decide +kernel
theorem dL_refused_51 : decode cL_refused 51 = .ok (.iconst 5, 1) := by decide +kernel
theorem dL_refused_52 : decode cL_refused 52 = .ok (.iconst 5, 1) := by decide +kernel
theorem dL_refused_53 : decode cL_refused 53 = .ok (.iconst 5, 1) := by decide +kernel
theorem dL_refused_54 : decode cL_refused 54 = .ok (.iconst 0, 1) := by decide +kernel
theorem dL_refused_55 : decode cL_refused 55 = .ok (.invokestatic 116, 3) := by decide +kernel
theorem dL_refused_58 : decode cL_refused 58 = .ok (.bipush (-72), 2) := by decide +kernel
theorem dL_refused_60 : decode cL_refused 60 = .ok (.if_icmp .ne 229, 3) := by decide +kernel
theorem dL_refused_63 : decode cL_refused 63 = .ok (.aload_n 0, 1) := by decide +kernel
theorem dL_refused_64 : decode cL_refused 64 = .ok (.iconst 1, 1) := by decide +kernel
theorem dL_refused_65 : decode cL_refused 65 = .ok (.sipush 300, 3) := by decide +kernel
theorem dL_refused_68 : decode cL_refused 68 = .ok (.iconst 0, 1) := by decide +kernel
theorem dL_refused_69 : decode cL_refused 69 = .ok (.iconst 0, 1) := by decide +kernel
theorem dL_refused_70 : decode cL_refused 70 = .ok (.iconst 0, 1) := by decide +kernel
theorem dL_refused_71 : decode cL_refused 71 = .ok (.invokestatic 116, 3) := by decide +kernel
theorem dL_refused_74 : decode cL_refused 74 = .ok (.bipush (-71), 2) := by decide +kernel
theorem dL_refused_76 : decode cL_refused 76 = .ok (.if_icmp .ne 213, 3) := by decide +kernel
theorem dL_refused_79 : decode cL_refused 79 = .ok (.aload_n 0, 1) := by decide +kernel
theorem dL_refused_80 : decode cL_refused 80 = .ok (.iconst 1, 1) := by decide +kernel
theorem dL_refused_81 : decode cL_refused 81 = .ok (.iconst (-1), 1) := by decide +kernel
theorem dL_refused_82 : decode cL_refused 82 = .ok (.iconst 0, 1) := by decide +kernel
theorem dL_refused_83 : decode cL_refused 83 = .ok (.iconst 0, 1) := by decide +kernel
theorem dL_refused_84 : decode cL_refused 84 = .ok (.iconst 0, 1) := by decide +kernel
theorem dL_refused_85 : decode cL_refused 85 = .ok (.invokestatic 116, 3) := by decide +kernel
theorem dL_refused_88 : decode cL_refused 88 = .ok (.bipush (-71), 2) := by decide +kernel
theorem dL_refused_90 : decode cL_refused 90 = .ok (.if_icmp .ne 199, 3) := by decide +kernel
theorem dL_refused_93 : decode cL_refused 93 = .ok (.aload_n 0, 1) := by decide +kernel
theorem dL_refused_94 : decode cL_refused 94 = .ok (.iconst 2, 1) := by decide +kernel
theorem dL_refused_95 : decode cL_refused 95 = .ok (.sipush 299, 3) := by decide +kernel
theorem dL_refused_98 : decode cL_refused 98 = .ok (.iconst 2, 1) := by decide +kernel
theorem dL_refused_99 : decode cL_refused 99 = .ok (.iconst 0, 1) := by decide +kernel
theorem dL_refused_100 : decode cL_refused 100 = .ok (.iconst 0, 1) := by decide +kernel
theorem dL_refused_101 : decode cL_refused 101 = .ok (.invokestatic 116, 3) := by decide +kernel
theorem dL_refused_104 : decode cL_refused 104 = .ok (.bipush (-71), 2) := by decide +kernel
theorem dL_refused_106 : decode cL_refused 106 = .ok (.if_icmp .ne 183, 3) := by decide +kernel
theorem dL_refused_109 : decode cL_refused 109 = .ok (.aload_n 0, 1) := by decide +kernel
theorem dL_refused_110 : decode cL_refused 110 = .ok (.iconst 2, 1) := by decide +kernel
theorem dL_refused_111 : decode cL_refused 111 = .ok (.iconst (-1), 1) := by decide +kernel
theorem dL_refused_112 : decode cL_refused 112 = .ok (.iconst 2, 1) := by decide +kernel
theorem dL_refused_113 : decode cL_refused 113 = .ok (.iconst 0, 1) := by decide +kernel
theorem dL_refused_114 : decode cL_refused 114 = .ok (.iconst 0, 1) := by decide +kernel
theorem dL_refused_115 : decode cL_refused 115 = .ok (.invokestatic 116, 3) := by decide +kernel
theorem dL_refused_118 : decode cL_refused 118 = .ok (.bipush (-71), 2) := by decide +kernel
theorem dL_refused_120 : decode cL_refused 120 = .ok (.if_icmp .ne 169, 3) := by decide +kernel
theorem dL_refused_123 : decode cL_refused 123 = .ok (.aload_n 0, 1) := by decide +kernel
theorem dL_refused_124 : decode cL_refused 124 = .ok (.iconst 2, 1) := by decide +kernel
theorem dL_refused_125 : decode cL_refused 125 = .ok (.iconst 5, 1) := by decide +kernel
theorem dL_refused_126 : decode cL_refused 126 = .ok (.iconst 0, 1) := by decide +kernel
theorem dL_refused_127 : decode cL_refused 127 = .ok (.iconst 0, 1) := by decide +kernel
theorem dL_refused_128 : decode cL_refused 128 = .ok (.iconst 0, 1) := by decide +kernel
theorem dL_refused_129 : decode cL_refused 129 = .ok (.invokestatic 116, 3) := by decide +kernel
theorem dL_refused_132 : decode cL_refused 132 = .ok (.bipush (-72), 2) := by decide +kernel
theorem dL_refused_134 : decode cL_refused 134 = .ok (.if_icmp .ne 155, 3) := by decide +kernel
theorem dL_refused_137 : decode cL_refused 137 = .ok (.aload_n 0, 1) := by decide +kernel
theorem dL_refused_138 : decode cL_refused 138 = .ok (.iconst 2, 1) := by decide +kernel
theorem dL_refused_139 : decode cL_refused 139 = .ok (.iconst 5, 1) := by decide +kernel
theorem dL_refused_140 : decode cL_refused 140 = .ok (.bipush 31, 2) := by decide +kernel
theorem dL_refused_142 : decode cL_refused 142 = .ok (.iconst 0, 1) := by decide +kernel
theorem dL_refused_143 : decode cL_refused 143 = .ok (.iconst 0, 1) := by decide +kernel
theorem dL_refused_144 : decode cL_refused 144 = .ok (.invokestatic 116, 3) := by decide +kernel
theorem dL_refused_147 : decode cL_refused 147 = .ok (.bipush (-72), 2) := by decide +kernel
theorem dL_refused_149 : decode cL_refused 149 = .ok (.if_icmp .ne 140, 3) := by decide +kernel
theorem dL_refused_152 : decode cL_refused 152 = .ok (.aload_n 0, 1) := by decide +kernel
theorem dL_refused_153 : decode cL_refused 153 = .ok (.iconst 3, 1) := by decide +kernel
theorem dL_refused_154 : decode cL_refused 154 = .ok (.iconst 0, 1) := by decide +kernel
theorem dL_refused_155 : decode cL_refused 155 = .ok (.iconst 0, 1) := by decide +kernel
theorem dL_refused_156 : decode cL_refused 156 = .ok (.iconst 0, 1) := by decide +kernel
theorem dL_refused_157 : decode cL_refused 157 = .ok (.iconst 0, 1) := by decide +kernel
theorem dL_refused_158 : decode cL_refused 158 = .ok (.invokestatic 116, 3) := by decide +kernel
theorem dL_refused_161 : decode cL_refused 161 = .ok (.bipush (-72), 2) := by decide +kernel
theorem dL_refused_163 : decode cL_refused 163 = .ok (.if_icmp .ne 126, 3) := by decide +kernel
theorem dL_refused_166 : decode cL_refused 166 = .ok (.aload_n 0, 1) := by decide +kernel
theorem dL_refused_167 : decode cL_refused 167 = .ok (.iconst 3, 1) := by decide +kernel
theorem dL_refused_168 : decode cL_refused 168 = .ok (.bipush 101, 2) := by decide +kernel
theorem dL_refused_170 : decode cL_refused 170 = .ok (.iconst 0, 1) := by decide +kernel
theorem dL_refused_171 : decode cL_refused 171 = .ok (.iconst 0, 1) := by decide +kernel
theorem dL_refused_172 : decode cL_refused 172 = .ok (.iconst 0, 1) := by decide +kernel
theorem dL_refused_173 : decode cL_refused 173 = .ok (.invokestatic 116, 3) := by decide +kernel
theorem dL_refused_176 : decode cL_refused 176 = .ok (.bipush (-72), 2) := by decide +kernel
theorem dL_refused_178 : decode cL_refused 178 = .ok (.if_icmp .ne 111, 3) := by decide +kernel
theorem dL_refused_181 : decode cL_refused 181 = .ok (.aload_n 0, 1) := by decide +kernel
theorem dL_refused_182 : decode cL_refused 182 = .ok (.iconst 4, 1) := by decide +kernel
theorem dL_refused_183 : decode cL_refused 183 = .ok (.sipush 300, 3) := by decide +kernel
theorem dL_refused_186 : decode cL_refused 186 = .ok (.iconst 0, 1) := by decide +kernel
theorem dL_refused_187 : decode cL_refused 187 = .ok (.iconst 0, 1) := by decide +kernel
theorem dL_refused_188 : decode cL_refused 188 = .ok (.iconst 0, 1) := by decide +kernel
theorem dL_refused_189 : decode cL_refused 189 = .ok (.invokestatic 116, 3) := by decide +kernel
theorem dL_refused_192 : decode cL_refused 192 = .ok (.bipush (-71), 2) := by decide +kernel
theorem dL_refused_194 : decode cL_refused 194 = .ok (.if_icmp .ne 95, 3) := by decide +kernel
theorem dL_refused_197 : decode cL_refused 197 = .ok (.aload_n 0, 1) := by decide +kernel
theorem dL_refused_198 : decode cL_refused 198 = .ok (.iconst 5, 1) := by decide +kernel
theorem dL_refused_199 : decode cL_refused 199 = .ok (.aload_n 0, 1) := by decide +kernel
theorem dL_refused_200 : decode cL_refused 200 = .ok (.invokevirtual 79, 3) := by decide +kernel
theorem dL_refused_203 : decode cL_refused 203 = .ok (.iconst 0, 1) := by decide +kernel
theorem dL_refused_204 : decode cL_refused 204 = .ok (.iconst 0, 1) := by decide +kernel
theorem dL_refused_205 : decode cL_refused 205 = .ok (.iconst 0, 1) := by decide +kernel
theorem dL_refused_206 : decode cL_refused 206 = .ok (.invokestatic 116, 3) := by decide +kernel
theorem dL_refused_209 : decode cL_refused 209 = .ok (.bipush (-71), 2) := by decide +kernel
theorem dL_refused_211 : decode cL_refused 211 = .ok (.if_icmp .ne 78, 3) := by decide +kernel
theorem dL_refused_214 : decode cL_refused 214 = .ok (.aload_n 0, 1) := by decide +kernel
theorem dL_refused_215 : decode cL_refused 215 = .ok (.bipush 6, 2) := by decide +kernel
theorem dL_refused_217 : decode cL_refused 217 = .ok (.iconst (-1), 1) := by decide +kernel
theorem dL_refused_218 : decode cL_refused 218 = .ok (.iconst 0, 1) := by decide +kernel
theorem dL_refused_219 : decode cL_refused 219 = .ok (.iconst 0, 1) := by decide +kernel
theorem dL_refused_220 : decode cL_refused 220 = .ok (.iconst 0, 1) := by decide +kernel
theorem dL_refused_221 : decode cL_refused 221 = .ok (.invokestatic 116, 3) := by decide +kernel
theorem dL_refused_224 : decode cL_refused 224 = .ok (.bipush (-71), 2) := by decide +kernel
theorem dL_refused_226 : decode cL_refused 226 = .ok (.if_icmp .ne 63, 3) := by decide +kernel
theorem dL_refused_229 : decode cL_refused 229 = .ok (.aload_n 0, 1) := by decide +kernel
theorem dL_refused_230 : decode cL_refused 230 = .ok (.bipush 7, 2) := by decide +kernel
theorem dL_refused_232 : decode cL_refused 232 = .ok (.bipush 100, 2) := by decide +kernel
theorem dL_refused_234 : decode cL_refused 234 = .ok (.iconst 0, 1) := by decide +kernel
theorem dL_refused_235 : decode cL_refused 235 = .ok (.iconst 0, 1) := by decide +kernel
theorem dL_refused_236 : decode cL_refused 236 = .ok (.iconst 0, 1) := by decide +kernel
theorem dL_refused_237 : decode cL_refused 237 = .ok (.invokestatic 116, 3) := by decide +kernel
theorem dL_refused_240 : decode cL_refused 240 = .ok (.bipush (-71), 2) := by decide +kernel
theorem dL_refused_242 : decode cL_refused 242 = .ok (.if_icmp .ne 47, 3) := by decide +kernel
theorem dL_refused_245 : decode cL_refused 245 = .ok (.aload_n 0, 1) := by decide +kernel
theorem dL_refused_246 : decode cL_refused 246 = .ok (.bipush 8, 2) := by decide +kernel
theorem dL_refused_248 : decode cL_refused 248 = .ok (.bipush 100, 2) := by decide +kernel
theorem dL_refused_250 : decode cL_refused 250 = .ok (.iconst 0, 1) := by decide +kernel
theorem dL_refused_251 : decode cL_refused 251 = .ok (.iconst 0, 1) := by decide +kernel
theorem dL_refused_252 : decode cL_refused 252 = .ok (.iconst 0, 1) := by decide +kernel
theorem dL_refused_253 : decode cL_refused 253 = .ok (.invokestatic 116, 3) := by decide +kernel
theorem dL_refused_256 : decode cL_refused 256 = .ok (.bipush (-71), 2) := by decide +kernel
theorem dL_refused_258 : decode cL_refused 258 = .ok (.if_icmp .ne 31, 3) := by decide +kernel
theorem dL_refused_261 : decode cL_refused 261 = .ok (.aload_n 0, 1) := by decide +kernel
theorem dL_refused_262 : decode cL_refused 262 = .ok (.bipush 9, 2) := by decide +kernel
theorem dL_refused_264 : decode cL_refused 264 = .ok (.iconst (-1), 1) := by decide +kernel
theorem dL_refused_265 : decode cL_refused 265 = .ok (.iconst 0, 1) := by decide +kernel
theorem dL_refused_266 : decode cL_refused 266 = .ok (.iconst 0, 1) := by decide +kernel
theorem dL_refused_267 : decode cL_refused 267 = .ok (.iconst 0, 1) := by decide +kernel
theorem dL_refused_268 : decode cL_refused 268 = .ok (.invokestatic 116, 3) := by decide +kernel
theorem dL_refused_271 : decode cL_refused 271 = .ok (.bipush (-71), 2) := by decide +kernel
theorem dL_refused_273 : decode cL_refused 273 = .ok (.if_icmp .ne 16, 3) := by decide +kernel
theorem dL_refused_276 : decode cL_refused 276 = .ok (.aload_n 0, 1) := by decide +kernel
theorem dL_refused_277 : decode cL_refused 277 = .ok (.invokestatic 112, 3) := by decide +kernel
theorem dL_refused_280 : decode cL_refused 280 = .ok (.lload_n 1, 1) := by decide +kernel
theorem dL_refused_281 : decode cL_refused 281 = .ok (.lcmp, 1) := by decide +kernel
theorem dL_refused_282 : decode cL_refused 282 = .ok (.ifCond .ne 7, 3) := by decide +kernel
theorem dL_refused_285 : decode cL_refused 285 = .ok (.iconst 1, 1) := by decide +kernel
theorem dL_refused_286 : decode cL_refused 286 = .ok (.goto 4, 3) := by decide +kernel
theorem dL_refused_289 : decode cL_refused 289 = .ok (.iconst 0, 1) := by decide +kernel
theorem dL_refused_290 : decode cL_refused 290 = .ok (.ireturn, 1) := by decide +kernel
set_option maxRecDepth 20000 in
theorem ggL_comes_X3_waiting : GoodIn wsL_comes wsX3_waiting := goodIn_r _ [5, 6, 207, 208, 209, 210, 211, 212, 213, 214, 215, 216, 217, 218, 219] (by decide +kernel) (by decide +kernel)
set_option maxRecDepth 20000 in
theorem gL_comes_X3_waiting : GoodIn wsL_comes (wsV RL 63 RX3 yX3_waiting wsX3_waiting) := goodIn_app (goodIn_of _ (by decide +kernel)) ggL_comes_X3_waiting
set_option maxRecDepth 20000 in
theorem ggL_comes_X3_lost : GoodIn wsL_comes wsX3_lost := goodIn_r _ [10, 6, 207, 208, 209, 210, 211, 212, 213, 214, 215, 216, 217, 218, 219] (by decide +kernel) (by decide +kernel)
set_option maxRecDepth 20000 in
theorem gL_comes_X3_lost : GoodIn wsL_comes (wsV RL 68 RX3 yX3_lost wsX3_lost) := goodIn_app (goodIn_of _ (by decide +kernel)) ggL_comes_X3_lost
set_option maxRecDepth 20000 in
theorem ggL_comes_X3_next : GoodIn wsL_comes wsX3_next := goodIn_r _ [14, 15, 207, 208, 209, 210, 220, 221, 222, 223, 224, 225] (by decide +kernel) (by decide +kernel)
set_option maxRecDepth 20000 in
theorem gL_comes_X3_next : GoodIn wsL_comes (wsV RL 84 RX3 yX3_next wsX3_next) := goodIn_app (goodIn_of _ (by decide +kernel)) ggL_comes_X3_next
set_option maxRecDepth 20000 in
theorem ggL_comes_L_some : GoodIn wsL_comes wsL_some := goodIn_r _ [19] (by decide +kernel) (by decide +kernel)
set_option maxRecDepth 20000 in
theorem gL_comes_L_some : GoodIn wsL_comes (va_wsS RL 119 yL_some wsL_some) := goodIn_app (goodIn_of _ (by decide +kernel)) ggL_comes_L_some
set_option maxRecDepth 20000 in
theorem ggL_comes_X3_has : GoodIn wsL_comes wsX3_has := goodIn_ca (goodIn_r _ [23, 24, 25, 26, 27, 28, 4, 29, 30, 31, 32, 33, 34, 35, 207, 208, 209, 210, 226, 227, 228, 229, 230] (by decide +kernel) (by decide +kernel)) (goodIn_sub (fun _ h => List.mem_cons_of_mem _ (List.mem_append_left _ (List.mem_append_left _ (List.mem_append_right _ h)))) (by decide +kernel))
set_option maxRecDepth 20000 in
theorem gL_comes_X3_has : GoodIn wsL_comes (wsV RL 37 RX3 yX3_has wsX3_has) := goodIn_app (goodIn_of _ (by decide +kernel)) ggL_comes_X3_has
set_option maxRecDepth 20000 in
theorem ggL_comes_X3_arrive : GoodIn wsL_comes wsX3_arrive := goodIn_ca (goodIn_r _ [39, 24, 25, 6, 40, 27, 28, 4, 29, 41, 42, 43, 44, 45, 46, 47, 48, 49, 50, 207, 208, 209, 210, 211, 212, 213, 214, 215, 216, 217, 218, 219] (by decide +kernel) (by decide +kernel)) (goodIn_sub (fun _ h => List.mem_cons_of_mem _ (List.mem_append_left _ (List.mem_append_left _ (List.mem_append_right _ h)))) (by decide +kernel))
set_option maxRecDepth 20000 in
theorem gL_comes_X3_arrive : GoodIn wsL_comes (wsV RL 26 RX3 yX3_arrive wsX3_arrive) := goodIn_app (goodIn_of _ (by decide +kernel)) ggL_comes_X3_arrive
set_option maxRecDepth 20000 in
theorem ggL_comes_L_call : GoodIn wsL_comes wsL_call := goodIn_ca (goodIn_ca (goodIn_ca (goodIn_r _ [53, 54, 55, 56, 57, 58, 18, 59, 60, 61, 62, 4, 63, 64, 65, 6, 66, 67, 68, 36, 37, 38, 39, 24, 25, 40, 27, 28, 29, 41, 42, 43, 44, 45, 46, 47, 48, 49, 50, 69, 70, 71, 72, 73, 74, 75, 76, 77, 78, 79, 80, 81, 82, 26, 15, 83, 84, 85, 86, 87, 88, 89, 90, 91, 92, 93, 94, 95, 96, 97, 98, 99, 100, 101, 102, 103, 104, 105, 33, 106, 35, 107, 108, 109, 110, 111, 112, 113, 114, 115, 116, 117, 118, 119, 120, 121, 31, 32, 34, 122, 123, 124, 125, 126, 127, 128, 129, 130, 131, 132, 133, 134, 135, 136, 137, 138, 139, 140, 141, 142, 143, 144, 145, 146, 147, 148, 149, 150, 151, 152, 153, 154, 155, 156, 157, 158, 159, 160, 161, 162, 163, 164, 165, 166, 167, 168, 169, 170, 171, 172, 173, 174, 175, 176, 177, 178, 179, 180, 181, 20, 21, 22, 23, 30, 182, 183, 184, 185, 186, 187, 188, 189, 190, 191, 192, 193, 194, 195, 196, 197, 198, 199, 200, 201, 202, 203, 204, 205, 206, 207, 208, 209, 210, 211, 212, 213, 214, 215, 216, 217, 218, 219, 220, 221, 222, 223, 224, 225, 226, 227, 228, 229, 230] (by decide +kernel) (by decide +kernel)) (goodIn_sub (fun _ h => List.mem_cons_of_mem _ (List.mem_append_left _ (List.mem_append_right _ h))) (by decide +kernel))) (goodIn_sub (fun _ h => List.mem_cons_of_mem _ (List.mem_append_left _ (List.mem_append_left _ (List.mem_append_right _ h)))) (by decide +kernel))) (goodIn_sub (fun _ h => List.mem_cons_of_mem _ (List.mem_append_right _ h)) (by decide +kernel))
set_option maxRecDepth 20000 in
theorem gL_comes_L_call : GoodIn wsL_comes (va_wsS RL 116 yL_call wsL_call) := goodIn_app (goodIn_of _ (by decide +kernel)) ggL_comes_L_call
set_option maxRecDepth 20000 in
theorem ggL_comes_X3_arriveRow : GoodIn wsL_comes wsX3_arriveRow := goodIn_ca (goodIn_ca (goodIn_r _ [72, 24, 25, 64, 65, 6, 40, 27, 28, 4, 29, 66, 67, 68, 41, 42, 43, 44, 45, 46, 47, 48, 49, 50, 207, 208, 209, 210, 211, 212, 213, 214, 215, 216, 217, 218, 219] (by decide +kernel) (by decide +kernel)) (goodIn_sub (fun _ h => List.mem_cons_of_mem _ (List.mem_append_left _ (List.mem_append_left _ (List.mem_append_right _ h)))) (by decide +kernel))) (goodIn_sub (fun _ h => List.mem_cons_of_mem _ (List.mem_append_left _ (List.mem_append_right _ h))) (by decide +kernel))
set_option maxRecDepth 20000 in
theorem gL_comes_X3_arriveRow : GoodIn wsL_comes (wsV RL 30 RX3 yX3_arriveRow wsX3_arriveRow) := goodIn_app (goodIn_of _ (by decide +kernel)) ggL_comes_X3_arriveRow
theorem dL_comes_0 : decode cL_comes 0 = .ok (.aload_n 0, 1) := by decide +kernel
theorem dL_comes_1 : decode cL_comes 1 = .ok (.invokevirtual 63, 3) := by decide +kernel
theorem dL_comes_4 : decode cL_comes 4 = .ok (.istore_n 3, 1) := by decide +kernel
theorem dL_comes_5 : decode cL_comes 5 = .ok (.aload_n 0, 1) := by decide +kernel
theorem dL_comes_6 : decode cL_comes 6 = .ok (.invokevirtual 68, 3) := by decide +kernel
theorem dL_comes_9 : decode cL_comes 9 = .ok (.istore 4, 2) := by decide +kernel
theorem dL_comes_11 : decode cL_comes 11 = .ok (.aload_n 0, 1) := by decide +kernel
theorem dL_comes_12 : decode cL_comes 12 = .ok (.invokevirtual 84, 3) := by decide +kernel
theorem dL_comes_15 : decode cL_comes 15 = .ok (.iconst (-1), 1) := by decide +kernel
theorem dL_comes_16 : decode cL_comes 16 = .ok (.if_icmp .ne 8, 3) := by decide +kernel
theorem dL_comes_19 : decode cL_comes 19 = .ok (.bipush 99, 2) := by decide +kernel
theorem dL_comes_21 : decode cL_comes 21 = .ok (.goto 7, 3) := by decide +kernel
theorem dL_comes_24 : decode cL_comes 24 = .ok (.aload_n 0, 1) := by decide +kernel
theorem dL_comes_25 : decode cL_comes 25 = .ok (.invokevirtual 84, 3) := by decide +kernel
theorem dL_comes_28 : decode cL_comes 28 = .ok (.istore 5, 2) := by decide +kernel
theorem dL_comes_30 : decode cL_comes 30 = .ok (.iconst 3, 1) := by decide +kernel
theorem dL_comes_31 : decode cL_comes 31 = .ok (.iload 5, 2) := by decide +kernel
theorem dL_comes_33 : decode cL_comes 33 = .ok (.bipush 97, 2) := by decide +kernel
theorem dL_comes_35 : decode cL_comes 35 = .ok (.if_icmp .ge 8, 3) := by decide +kernel
theorem dL_comes_38 : decode cL_comes 38 = .ok (.iload 5, 2) := by decide +kernel
theorem dL_comes_40 : decode cL_comes 40 = .ok (.goto 5, 3) := by decide +kernel
theorem dL_comes_43 : decode cL_comes 43 = .ok (.bipush 97, 2) := by decide +kernel
theorem dL_comes_45 : decode cL_comes 45 = .ok (.imul, 1) := by decide +kernel
theorem dL_comes_46 : decode cL_comes 46 = .ok (.iload_n 2, 1) := by decide +kernel
theorem dL_comes_47 : decode cL_comes 47 = .ok (.bipush 8, 2) := by decide +kernel
theorem dL_comes_49 : decode cL_comes 49 = .ok (.invokestatic 119, 3) := by decide +kernel
theorem dL_comes_52 : decode cL_comes 52 = .ok (.iadd, 1) := by decide +kernel
theorem dL_comes_53 : decode cL_comes 53 = .ok (.istore 6, 2) := by decide +kernel
theorem dL_comes_55 : decode cL_comes 55 = .ok (.iload_n 2, 1) := by decide +kernel
theorem dL_comes_56 : decode cL_comes 56 = .ok (.iconst 4, 1) := by decide +kernel
theorem dL_comes_57 : decode cL_comes 57 = .ok (.ishr, 1) := by decide +kernel
theorem dL_comes_58 : decode cL_comes 58 = .ok (.iconst 3, 1) := by decide +kernel
theorem dL_comes_59 : decode cL_comes 59 = .ok (.invokestatic 119, 3) := by decide +kernel
theorem dL_comes_62 : decode cL_comes 62 = .ok (.ifCond .ne 95, 3) := by decide +kernel
theorem dL_comes_65 : decode cL_comes 65 = .ok (.aload_n 0, 1) := by decide +kernel
theorem dL_comes_66 : decode cL_comes 66 = .ok (.iload 6, 2) := by decide +kernel
theorem dL_comes_68 : decode cL_comes 68 = .ok (.invokevirtual 37, 3) := by decide +kernel
theorem dL_comes_71 : decode cL_comes 71 = .ok (.istore 7, 2) := by decide +kernel
theorem dL_comes_73 : decode cL_comes 73 = .ok (.aload_n 0, 1) := by decide +kernel
theorem dL_comes_74 : decode cL_comes 74 = .ok (.iload 6, 2) := by decide +kernel
theorem dL_comes_76 : decode cL_comes 76 = .ok (.invokevirtual 26, 3) := by decide +kernel
theorem dL_comes_79 : decode cL_comes 79 = .ok (.istore 8, 2) := by decide +kernel
theorem dL_comes_81 : decode cL_comes 81 = .ok (.iload_n 3, 1) := by decide +kernel
theorem dL_comes_82 : decode cL_comes 82 = .ok (.iload_n 1, 1) := by decide +kernel
theorem dL_comes_83 : decode cL_comes 83 = .ok (.if_icmp .lt 31, 3) := by decide +kernel
theorem dL_comes_86 : decode cL_comes 86 = .ok (.iload 8, 2) := by decide +kernel
theorem dL_comes_88 : decode cL_comes 88 = .ok (.iconst (-1), 1) := by decide +kernel
theorem dL_comes_89 : decode cL_comes 89 = .ok (.if_icmp .ne 66, 3) := by decide +kernel
theorem dL_comes_92 : decode cL_comes 92 = .ok (.aload_n 0, 1) := by decide +kernel
theorem dL_comes_93 : decode cL_comes 93 = .ok (.invokevirtual 63, 3) := by decide +kernel
theorem dL_comes_96 : decode cL_comes 96 = .ok (.iload_n 3, 1) := by decide +kernel
theorem dL_comes_97 : decode cL_comes 97 = .ok (.if_icmp .ne 58, 3) := by decide +kernel
theorem dL_comes_100 : decode cL_comes 100 = .ok (.aload_n 0, 1) := by decide +kernel
theorem dL_comes_101 : decode cL_comes 101 = .ok (.invokevirtual 68, 3) := by decide +kernel
theorem dL_comes_104 : decode cL_comes 104 = .ok (.iload 4, 2) := by decide +kernel
theorem dL_comes_106 : decode cL_comes 106 = .ok (.iconst 1, 1) := by decide +kernel
theorem dL_comes_107 : decode cL_comes 107 = .ok (.iadd, 1) := by decide +kernel
theorem dL_comes_108 : decode cL_comes 108 = .ok (.if_icmp .ne 47, 3) := by decide +kernel
theorem dL_comes_111 : decode cL_comes 111 = .ok (.goto 29, 3) := by decide +kernel
theorem dL_comes_114 : decode cL_comes 114 = .ok (.iload 8, 2) := by decide +kernel
theorem dL_comes_116 : decode cL_comes 116 = .ok (.iload_n 3, 1) := by decide +kernel
theorem dL_comes_117 : decode cL_comes 117 = .ok (.iconst 1, 1) := by decide +kernel
theorem dL_comes_118 : decode cL_comes 118 = .ok (.iadd, 1) := by decide +kernel
theorem dL_comes_119 : decode cL_comes 119 = .ok (.if_icmp .ne 36, 3) := by decide +kernel
theorem dL_comes_122 : decode cL_comes 122 = .ok (.aload_n 0, 1) := by decide +kernel
theorem dL_comes_123 : decode cL_comes 123 = .ok (.invokevirtual 63, 3) := by decide +kernel
theorem dL_comes_126 : decode cL_comes 126 = .ok (.iload 8, 2) := by decide +kernel
theorem dL_comes_128 : decode cL_comes 128 = .ok (.if_icmp .ne 27, 3) := by decide +kernel
theorem dL_comes_131 : decode cL_comes 131 = .ok (.aload_n 0, 1) := by decide +kernel
theorem dL_comes_132 : decode cL_comes 132 = .ok (.invokevirtual 68, 3) := by decide +kernel
theorem dL_comes_135 : decode cL_comes 135 = .ok (.iload 4, 2) := by decide +kernel
theorem dL_comes_137 : decode cL_comes 137 = .ok (.if_icmp .ne 18, 3) := by decide +kernel
theorem dL_comes_140 : decode cL_comes 140 = .ok (.aload_n 0, 1) := by decide +kernel
theorem dL_comes_141 : decode cL_comes 141 = .ok (.iload 6, 2) := by decide +kernel
theorem dL_comes_143 : decode cL_comes 143 = .ok (.invokevirtual 37, 3) := by decide +kernel
theorem dL_comes_146 : decode cL_comes 146 = .ok (.iload 7, 2) := by decide +kernel
theorem dL_comes_148 : decode cL_comes 148 = .ok (.if_icmp .ne 7, 3) := by decide +kernel
theorem dL_comes_151 : decode cL_comes 151 = .ok (.iconst 1, 1) := by decide +kernel
theorem dL_comes_152 : decode cL_comes 152 = .ok (.goto 4, 3) := by decide +kernel
theorem dL_comes_155 : decode cL_comes 155 = .ok (.iconst 0, 1) := by decide +kernel
theorem dL_comes_156 : decode cL_comes 156 = .ok (.ireturn, 1) := by decide +kernel
theorem dL_comes_157 : decode cL_comes 157 = .ok (.iconst 1, 1) := by decide +kernel
theorem dL_comes_158 : decode cL_comes 158 = .ok (.iload_n 2, 1) := by decide +kernel
theorem dL_comes_159 : decode cL_comes 159 = .ok (.bipush 6, 2) := by decide +kernel
theorem dL_comes_161 : decode cL_comes 161 = .ok (.ishr, 1) := by decide +kernel
theorem dL_comes_162 : decode cL_comes 162 = .ok (.iload_n 2, 1) := by decide +kernel
theorem dL_comes_163 : decode cL_comes 163 = .ok (.iconst 2, 1) := by decide +kernel
theorem dL_comes_164 : decode cL_comes 164 = .ok (.ishr, 1) := by decide +kernel
theorem dL_comes_165 : decode cL_comes 165 = .ok (.iconst 2, 1) := by decide +kernel
theorem dL_comes_166 : decode cL_comes 166 = .ok (.invokestatic 119, 3) := by decide +kernel
theorem dL_comes_169 : decode cL_comes 169 = .ok (.ifCond .ne 8, 3) := by decide +kernel
theorem dL_comes_172 : decode cL_comes 172 = .ok (.bipush 30, 2) := by decide +kernel
theorem dL_comes_174 : decode cL_comes 174 = .ok (.goto 5, 3) := by decide +kernel
theorem dL_comes_177 : decode cL_comes 177 = .ok (.bipush 9, 2) := by decide +kernel
theorem dL_comes_179 : decode cL_comes 179 = .ok (.invokestatic 119, 3) := by decide +kernel
theorem dL_comes_182 : decode cL_comes 182 = .ok (.iadd, 1) := by decide +kernel
theorem dL_comes_183 : decode cL_comes 183 = .ok (.istore 7, 2) := by decide +kernel
theorem dL_comes_185 : decode cL_comes 185 = .ok (.iload 6, 2) := by decide +kernel
theorem dL_comes_187 : decode cL_comes 187 = .ok (.iload 7, 2) := by decide +kernel
theorem dL_comes_189 : decode cL_comes 189 = .ok (.iadd, 1) := by decide +kernel
theorem dL_comes_190 : decode cL_comes 190 = .ok (.sipush 300, 3) := by decide +kernel
theorem dL_comes_193 : decode cL_comes 193 = .ok (.if_icmp .le 33, 3) := by decide +kernel
theorem dL_comes_196 : decode cL_comes 196 = .ok (.aload_n 0, 1) := by decide +kernel
theorem dL_comes_197 : decode cL_comes 197 = .ok (.iconst 2, 1) := by decide +kernel
theorem dL_comes_198 : decode cL_comes 198 = .ok (.iload 6, 2) := by decide +kernel
theorem dL_comes_200 : decode cL_comes 200 = .ok (.iload 7, 2) := by decide +kernel
theorem dL_comes_202 : decode cL_comes 202 = .ok (.iconst 0, 1) := by decide +kernel
theorem dL_comes_203 : decode cL_comes 203 = .ok (.iconst 0, 1) := by decide +kernel
theorem dL_comes_204 : decode cL_comes 204 = .ok (.invokestatic 116, 3) := by decide +kernel
theorem dL_comes_207 : decode cL_comes 207 = .ok (.bipush (-71), 2) := by decide +kernel
theorem dL_comes_209 : decode cL_comes 209 = .ok (.if_icmp .ne 15, 3) := by decide +kernel
theorem dL_comes_212 : decode cL_comes 212 = .ok (.aload_n 0, 1) := by decide +kernel
theorem dL_comes_213 : decode cL_comes 213 = .ok (.invokevirtual 63, 3) := by decide +kernel
theorem dL_comes_216 : decode cL_comes 216 = .ok (.iload_n 3, 1) := by decide +kernel
theorem dL_comes_217 : decode cL_comes 217 = .ok (.if_icmp .ne 7, 3) := by decide +kernel
theorem dL_comes_220 : decode cL_comes 220 = .ok (.iconst 1, 1) := by decide +kernel
theorem dL_comes_221 : decode cL_comes 221 = .ok (.goto 4, 3) := by decide +kernel
theorem dL_comes_224 : decode cL_comes 224 = .ok (.iconst 0, 1) := by decide +kernel
theorem dL_comes_225 : decode cL_comes 225 = .ok (.ireturn, 1) := by decide +kernel
theorem dL_comes_226 : decode cL_comes 226 = .ok (.iload_n 3, 1) := by decide +kernel
theorem dL_comes_227 : decode cL_comes 227 = .ok (.iload_n 1, 1) := by decide +kernel
theorem dL_comes_228 : decode cL_comes 228 = .ok (.if_icmp .lt 7, 3) := by decide +kernel
theorem dL_comes_231 : decode cL_comes 231 = .ok (.iconst 0, 1) := by decide +kernel
theorem dL_comes_232 : decode cL_comes 232 = .ok (.goto 6, 3) := by decide +kernel
theorem dL_comes_235 : decode cL_comes 235 = .ok (.iload_n 1, 1) := by decide +kernel
theorem dL_comes_236 : decode cL_comes 236 = .ok (.iload_n 3, 1) := by decide +kernel
theorem dL_comes_237 : decode cL_comes 237 = .ok (.isub, 1) := by decide +kernel
theorem dL_comes_238 : decode cL_comes 238 = .ok (.istore 8, 2) := by decide +kernel
theorem dL_comes_240 : decode cL_comes 240 = .ok (.iload 8, 2) := by decide +kernel
theorem dL_comes_242 : decode cL_comes 242 = .ok (.iload 7, 2) := by decide +kernel
theorem dL_comes_244 : decode cL_comes 244 = .ok (.if_icmp .ge 8, 3) := by decide +kernel
theorem dL_comes_247 : decode cL_comes 247 = .ok (.iload 8, 2) := by decide +kernel
theorem dL_comes_249 : decode cL_comes 249 = .ok (.goto 5, 3) := by decide +kernel
theorem dL_comes_252 : decode cL_comes 252 = .ok (.iload 7, 2) := by decide +kernel
theorem dL_comes_254 : decode cL_comes 254 = .ok (.istore 9, 2) := by decide +kernel
theorem dL_comes_256 : decode cL_comes 256 = .ok (.aload_n 0, 1) := by decide +kernel
theorem dL_comes_257 : decode cL_comes 257 = .ok (.iload 6, 2) := by decide +kernel
theorem dL_comes_259 : decode cL_comes 259 = .ok (.iload 7, 2) := by decide +kernel
theorem dL_comes_261 : decode cL_comes 261 = .ok (.invokevirtual 30, 3) := by decide +kernel
theorem dL_comes_264 : decode cL_comes 264 = .ok (.iload 7, 2) := by decide +kernel
theorem dL_comes_266 : decode cL_comes 266 = .ok (.iload 9, 2) := by decide +kernel
theorem dL_comes_268 : decode cL_comes 268 = .ok (.isub, 1) := by decide +kernel
theorem dL_comes_269 : decode cL_comes 269 = .ok (.if_icmp .ne 33, 3) := by decide +kernel
theorem dL_comes_272 : decode cL_comes 272 = .ok (.aload_n 0, 1) := by decide +kernel
theorem dL_comes_273 : decode cL_comes 273 = .ok (.invokevirtual 63, 3) := by decide +kernel
theorem dL_comes_276 : decode cL_comes 276 = .ok (.iload_n 3, 1) := by decide +kernel
theorem dL_comes_277 : decode cL_comes 277 = .ok (.iload 9, 2) := by decide +kernel
theorem dL_comes_279 : decode cL_comes 279 = .ok (.iadd, 1) := by decide +kernel
theorem dL_comes_280 : decode cL_comes 280 = .ok (.if_icmp .ne 22, 3) := by decide +kernel
theorem dL_comes_283 : decode cL_comes 283 = .ok (.aload_n 0, 1) := by decide +kernel
theorem dL_comes_284 : decode cL_comes 284 = .ok (.invokevirtual 68, 3) := by decide +kernel
theorem dL_comes_287 : decode cL_comes 287 = .ok (.iload 4, 2) := by decide +kernel
theorem dL_comes_289 : decode cL_comes 289 = .ok (.iload 7, 2) := by decide +kernel
theorem dL_comes_291 : decode cL_comes 291 = .ok (.iadd, 1) := by decide +kernel
theorem dL_comes_292 : decode cL_comes 292 = .ok (.iload 9, 2) := by decide +kernel
theorem dL_comes_294 : decode cL_comes 294 = .ok (.isub, 1) := by decide +kernel
theorem dL_comes_295 : decode cL_comes 295 = .ok (.if_icmp .ne 7, 3) := by decide +kernel
theorem dL_comes_298 : decode cL_comes 298 = .ok (.iconst 1, 1) := by decide +kernel
theorem dL_comes_299 : decode cL_comes 299 = .ok (.goto 4, 3) := by decide +kernel
theorem dL_comes_302 : decode cL_comes 302 = .ok (.iconst 0, 1) := by decide +kernel
theorem dL_comes_303 : decode cL_comes 303 = .ok (.ireturn, 1) := by decide +kernel
set_option maxRecDepth 20000 in
theorem ggL_ticks_X3_tick : GoodIn wsL_ticks wsX3_tick := goodIn_r _ [5, 6, 202, 203, 204, 205] (by decide +kernel) (by decide +kernel)
set_option maxRecDepth 20000 in
theorem gL_ticks_X3_tick : GoodIn wsL_ticks (wsV RL 57 RX3 yX3_tick wsX3_tick) := goodIn_app (goodIn_of _ (by decide +kernel)) ggL_ticks_X3_tick
set_option maxRecDepth 20000 in
theorem ggL_ticks_X3_waiting : GoodIn wsL_ticks wsX3_waiting := goodIn_r _ [10, 11, 202, 203, 204, 205, 206, 207, 208, 209, 210, 211, 212, 213, 214] (by decide +kernel) (by decide +kernel)
set_option maxRecDepth 20000 in
theorem gL_ticks_X3_waiting : GoodIn wsL_ticks (wsV RL 63 RX3 yX3_waiting wsX3_waiting) := goodIn_app (goodIn_of _ (by decide +kernel)) ggL_ticks_X3_waiting
set_option maxRecDepth 20000 in
theorem ggL_ticks_X3_lost : GoodIn wsL_ticks wsX3_lost := goodIn_r _ [15, 11, 202, 203, 204, 205, 206, 207, 208, 209, 210, 211, 212, 213, 214] (by decide +kernel) (by decide +kernel)
set_option maxRecDepth 20000 in
theorem gL_ticks_X3_lost : GoodIn wsL_ticks (wsV RL 68 RX3 yX3_lost wsX3_lost) := goodIn_app (goodIn_of _ (by decide +kernel)) ggL_ticks_X3_lost
set_option maxRecDepth 20000 in
theorem ggL_ticks_X3_asked : GoodIn wsL_ticks wsX3_asked := goodIn_r _ [19, 20, 202, 203, 204, 205, 215, 216, 217, 218, 219] (by decide +kernel) (by decide +kernel)
set_option maxRecDepth 20000 in
theorem gL_ticks_X3_asked : GoodIn wsL_ticks (wsV RL 79 RX3 yX3_asked wsX3_asked) := goodIn_app (goodIn_of _ (by decide +kernel)) ggL_ticks_X3_asked
set_option maxRecDepth 20000 in
theorem ggL_ticks_X3_next : GoodIn wsL_ticks wsX3_next := goodIn_r _ [24, 25, 202, 203, 204, 205, 220, 221, 222, 223, 224, 225] (by decide +kernel) (by decide +kernel)
set_option maxRecDepth 20000 in
theorem gL_ticks_X3_next : GoodIn wsL_ticks (wsV RL 84 RX3 yX3_next wsX3_next) := goodIn_app (goodIn_of _ (by decide +kernel)) ggL_ticks_X3_next
set_option maxRecDepth 20000 in
theorem ggL_ticks_X3_turn : GoodIn wsL_ticks wsX3_turn := goodIn_r _ [29, 25, 202, 203, 204, 205, 220, 221, 222, 223, 224, 225] (by decide +kernel) (by decide +kernel)
set_option maxRecDepth 20000 in
theorem gL_ticks_X3_turn : GoodIn wsL_ticks (wsV RL 89 RX3 yX3_turn wsX3_turn) := goodIn_app (goodIn_of _ (by decide +kernel)) ggL_ticks_X3_turn
set_option maxRecDepth 20000 in
theorem ggL_ticks_X3_shown : GoodIn wsL_ticks wsX3_shown := goodIn_r _ [33, 25, 202, 203, 204, 205, 220, 221, 222, 223, 224, 225] (by decide +kernel) (by decide +kernel)
set_option maxRecDepth 20000 in
theorem gL_ticks_X3_shown : GoodIn wsL_ticks (wsV RL 97 RX3 yX3_shown wsX3_shown) := goodIn_app (goodIn_of _ (by decide +kernel)) ggL_ticks_X3_shown
set_option maxRecDepth 20000 in
theorem ggL_ticks_X3_couldBe : GoodIn wsL_ticks wsX3_couldBe := goodIn_r _ [37, 25, 38, 39, 40, 41, 42, 43, 44, 45, 46, 47, 48, 49, 50, 51, 52, 53, 54, 55, 56, 57, 58, 59, 60, 61, 62, 63, 64, 65, 66, 67, 202, 203, 204, 205, 220, 221, 222, 223, 224, 225, 215, 216, 217, 218, 219] (by decide +kernel) (by decide +kernel)
set_option maxRecDepth 20000 in
theorem gL_ticks_X3_couldBe : GoodIn wsL_ticks (wsV RL 100 RX3 yX3_couldBe wsX3_couldBe) := goodIn_app (goodIn_of _ (by decide +kernel)) ggL_ticks_X3_couldBe
set_option maxRecDepth 20000 in
theorem ggL_ticks_X3_isPolled : GoodIn wsL_ticks wsX3_isPolled := goodIn_r _ [71, 11, 202, 203, 204, 205, 206, 207, 208, 209, 210, 211, 212, 213, 214] (by decide +kernel) (by decide +kernel)
set_option maxRecDepth 20000 in
theorem gL_ticks_X3_isPolled : GoodIn wsL_ticks (wsV RL 73 RX3 yX3_isPolled wsX3_isPolled) := goodIn_app (goodIn_of _ (by decide +kernel)) ggL_ticks_X3_isPolled
set_option maxRecDepth 20000 in
theorem ggL_ticks_X3_advance : GoodIn wsL_ticks wsX3_advance := goodIn_ca (goodIn_ca (goodIn_r _ [75, 76, 77, 78, 79, 6, 80, 81, 4, 82, 83, 84, 85, 86, 11, 20, 25, 87, 88, 89, 90, 91, 92, 93, 94, 95, 96, 97, 98, 99, 100, 101, 102, 103, 104, 105, 106, 107, 108, 109, 110, 111, 112, 113, 48, 114, 50, 115, 116, 117, 118, 119, 120, 121, 122, 123, 124, 125, 126, 127, 128, 129, 130, 131, 132, 133, 134, 135, 136, 137, 138, 139, 140, 141, 142, 143, 41, 144, 145, 146, 147, 148, 149, 150, 44, 45, 46, 47, 49, 151, 152, 153, 154, 43, 155, 156, 157, 158, 159, 160, 161, 162, 51, 52, 53, 54, 55, 56, 65, 66, 67, 163, 164, 165, 166, 61, 62, 63, 64, 167, 168, 169, 170, 171, 172, 173, 174, 202, 203, 204, 205, 220, 221, 222, 223, 224, 225, 206, 207, 208, 209, 210, 211, 212, 213, 214, 215, 216, 217, 218, 219] (by decide +kernel) (by decide +kernel)) (goodIn_sub (fun _ h => List.mem_cons_of_mem _ (List.mem_append_left _ (List.mem_append_left _ (List.mem_append_right _ h)))) (by decide +kernel))) (goodIn_sub (fun _ h => List.mem_cons_of_mem _ (List.mem_append_left _ (List.mem_append_right _ h))) (by decide +kernel))
set_option maxRecDepth 20000 in
theorem gL_ticks_X3_advance : GoodIn wsL_ticks (wsV RL 34 RX3 yX3_advance wsX3_advance) := goodIn_app (goodIn_of _ (by decide +kernel)) ggL_ticks_X3_advance
set_option maxRecDepth 20000 in
theorem ggL_ticks_X3_askedAt : GoodIn wsL_ticks wsX3_askedAt := goodIn_ca (goodIn_r _ [178, 179, 180, 20, 202, 203, 204, 205, 215, 216, 217, 218, 219] (by decide +kernel) (by decide +kernel)) (goodIn_sub (fun _ h => List.mem_cons_of_mem _ (List.mem_append_right _ h)) (by decide +kernel))
set_option maxRecDepth 20000 in
theorem gL_ticks_X3_askedAt : GoodIn wsL_ticks (wsV RL 41 RX3 yX3_askedAt wsX3_askedAt) := goodIn_app (goodIn_of _ (by decide +kernel)) ggL_ticks_X3_askedAt
set_option maxRecDepth 20000 in
theorem ggL_ticks_X3_has : GoodIn wsL_ticks wsX3_has := goodIn_ca (goodIn_r _ [184, 179, 180, 20, 185, 119, 4, 120, 186, 132, 133, 48, 134, 50, 202, 203, 204, 205, 215, 216, 217, 218, 219] (by decide +kernel) (by decide +kernel)) (goodIn_sub (fun _ h => List.mem_cons_of_mem _ (List.mem_append_right _ h)) (by decide +kernel))
set_option maxRecDepth 20000 in
theorem gL_ticks_X3_has : GoodIn wsL_ticks (wsV RL 37 RX3 yX3_has wsX3_has) := goodIn_app (goodIn_of _ (by decide +kernel)) ggL_ticks_X3_has
set_option maxRecDepth 20000 in
theorem ggL_ticks_X3_fate : GoodIn wsL_ticks wsX3_fate := goodIn_ca (goodIn_r _ [190, 179, 180, 25, 191, 157, 4, 158, 202, 203, 204, 205, 220, 221, 222, 223, 224, 225] (by decide +kernel) (by decide +kernel)) (goodIn_sub (fun _ h => List.mem_cons_of_mem _ (List.mem_append_right _ h)) (by decide +kernel))
set_option maxRecDepth 20000 in
theorem gL_ticks_X3_fate : GoodIn wsL_ticks (wsV RL 54 RX3 yX3_fate wsX3_fate) := goodIn_app (goodIn_of _ (by decide +kernel)) ggL_ticks_X3_fate
set_option maxRecDepth 20000 in
theorem ggL_ticks_X3_fill : GoodIn wsL_ticks wsX3_fill := goodIn_r _ [195, 25, 196, 172, 173, 41, 174, 43, 44, 45, 46, 47, 48, 49, 50, 202, 203, 204, 205, 220, 221, 222, 223, 224, 225, 215, 216, 217, 218, 219] (by decide +kernel) (by decide +kernel)
set_option maxRecDepth 20000 in
theorem gL_ticks_X3_fill : GoodIn wsL_ticks (wsV RL 94 RX3 yX3_fill wsX3_fill) := goodIn_app (goodIn_of _ (by decide +kernel)) ggL_ticks_X3_fill
set_option maxRecDepth 20000 in
theorem ggL_ticks_X3_isWhole : GoodIn wsL_ticks wsX3_isWhole := goodIn_ca (goodIn_r _ [200, 179, 180, 20, 191, 157, 4, 158, 201, 46, 47, 48, 49, 50, 202, 203, 204, 205, 215, 216, 217, 218, 219] (by decide +kernel) (by decide +kernel)) (goodIn_sub (fun _ h => List.mem_cons_of_mem _ (List.mem_append_right _ h)) (by decide +kernel))
set_option maxRecDepth 20000 in
theorem gL_ticks_X3_isWhole : GoodIn wsL_ticks (wsV RL 51 RX3 yX3_isWhole wsX3_isWhole) := goodIn_app (goodIn_of _ (by decide +kernel)) ggL_ticks_X3_isWhole
theorem dL_ticks_0 : decode cL_ticks 0 = .ok (.aload_n 0, 1) := by decide +kernel
theorem dL_ticks_1 : decode cL_ticks 1 = .ok (.invokevirtual 57, 3) := by decide +kernel
theorem dL_ticks_4 : decode cL_ticks 4 = .ok (.istore_n 2, 1) := by decide +kernel
theorem dL_ticks_5 : decode cL_ticks 5 = .ok (.iload_n 2, 1) := by decide +kernel
theorem dL_ticks_6 : decode cL_ticks 6 = .ok (.sipush 19000, 3) := by decide +kernel
theorem dL_ticks_9 : decode cL_ticks 9 = .ok (.if_icmp .le 5, 3) := by decide +kernel
theorem dL_ticks_12 : decode cL_ticks 12 = .ok (.iconst 1, 1) := by decide +kernel
theorem dL_ticks_13 : decode cL_ticks 13 = .ok (.ireturn, 1) := by decide +kernel
theorem dL_ticks_14 : decode cL_ticks 14 = .ok (.aload_n 0, 1) := by decide +kernel
theorem dL_ticks_15 : decode cL_ticks 15 = .ok (.invokevirtual 63, 3) := by decide +kernel
theorem dL_ticks_18 : decode cL_ticks 18 = .ok (.istore_n 3, 1) := by decide +kernel
theorem dL_ticks_19 : decode cL_ticks 19 = .ok (.aload_n 0, 1) := by decide +kernel
theorem dL_ticks_20 : decode cL_ticks 20 = .ok (.invokevirtual 68, 3) := by decide +kernel
theorem dL_ticks_23 : decode cL_ticks 23 = .ok (.istore 4, 2) := by decide +kernel
theorem dL_ticks_25 : decode cL_ticks 25 = .ok (.aload_n 0, 1) := by decide +kernel
theorem dL_ticks_26 : decode cL_ticks 26 = .ok (.invokevirtual 79, 3) := by decide +kernel
theorem dL_ticks_29 : decode cL_ticks 29 = .ok (.istore 5, 2) := by decide +kernel
theorem dL_ticks_31 : decode cL_ticks 31 = .ok (.aload_n 0, 1) := by decide +kernel
theorem dL_ticks_32 : decode cL_ticks 32 = .ok (.invokevirtual 84, 3) := by decide +kernel
theorem dL_ticks_35 : decode cL_ticks 35 = .ok (.istore 6, 2) := by decide +kernel
theorem dL_ticks_37 : decode cL_ticks 37 = .ok (.aload_n 0, 1) := by decide +kernel
theorem dL_ticks_38 : decode cL_ticks 38 = .ok (.invokevirtual 89, 3) := by decide +kernel
theorem dL_ticks_41 : decode cL_ticks 41 = .ok (.istore 7, 2) := by decide +kernel
theorem dL_ticks_43 : decode cL_ticks 43 = .ok (.aload_n 0, 1) := by decide +kernel
theorem dL_ticks_44 : decode cL_ticks 44 = .ok (.invokevirtual 97, 3) := by decide +kernel
theorem dL_ticks_47 : decode cL_ticks 47 = .ok (.istore 8, 2) := by decide +kernel
theorem dL_ticks_49 : decode cL_ticks 49 = .ok (.aload_n 0, 1) := by decide +kernel
theorem dL_ticks_50 : decode cL_ticks 50 = .ok (.invokevirtual 100, 3) := by decide +kernel
theorem dL_ticks_53 : decode cL_ticks 53 = .ok (.istore 9, 2) := by decide +kernel
theorem dL_ticks_55 : decode cL_ticks 55 = .ok (.aload_n 0, 1) := by decide +kernel
theorem dL_ticks_56 : decode cL_ticks 56 = .ok (.invokevirtual 73, 3) := by decide +kernel
theorem dL_ticks_59 : decode cL_ticks 59 = .ok (.istore 10, 2) := by decide +kernel
theorem dL_ticks_61 : decode cL_ticks 61 = .ok (.aload_n 0, 1) := by decide +kernel
theorem dL_ticks_62 : decode cL_ticks 62 = .ok (.iconst 1, 1) := by decide +kernel
theorem dL_ticks_63 : decode cL_ticks 63 = .ok (.invokevirtual 34, 3) := by decide +kernel
theorem dL_ticks_66 : decode cL_ticks 66 = .ok (.iload_n 2, 1) := by decide +kernel
theorem dL_ticks_67 : decode cL_ticks 67 = .ok (.iconst 1, 1) := by decide +kernel
theorem dL_ticks_68 : decode cL_ticks 68 = .ok (.iadd, 1) := by decide +kernel
theorem dL_ticks_69 : decode cL_ticks 69 = .ok (.if_icmp .ne 33, 3) := by decide +kernel
theorem dL_ticks_72 : decode cL_ticks 72 = .ok (.aload_n 0, 1) := by decide +kernel
theorem dL_ticks_73 : decode cL_ticks 73 = .ok (.invokevirtual 68, 3) := by decide +kernel
theorem dL_ticks_76 : decode cL_ticks 76 = .ok (.iload 4, 2) := by decide +kernel
theorem dL_ticks_78 : decode cL_ticks 78 = .ok (.if_icmp .ne 24, 3) := by decide +kernel
theorem dL_ticks_81 : decode cL_ticks 81 = .ok (.aload_n 0, 1) := by decide +kernel
theorem dL_ticks_82 : decode cL_ticks 82 = .ok (.invokevirtual 79, 3) := by decide +kernel
theorem dL_ticks_85 : decode cL_ticks 85 = .ok (.iload 5, 2) := by decide +kernel
theorem dL_ticks_87 : decode cL_ticks 87 = .ok (.if_icmp .lt 15, 3) := by decide +kernel
theorem dL_ticks_90 : decode cL_ticks 90 = .ok (.aload_n 0, 1) := by decide +kernel
theorem dL_ticks_91 : decode cL_ticks 91 = .ok (.invokevirtual 63, 3) := by decide +kernel
theorem dL_ticks_94 : decode cL_ticks 94 = .ok (.iload_n 3, 1) := by decide +kernel
theorem dL_ticks_95 : decode cL_ticks 95 = .ok (.if_icmp .gt 7, 3) := by decide +kernel
theorem dL_ticks_98 : decode cL_ticks 98 = .ok (.iconst 1, 1) := by decide +kernel
theorem dL_ticks_99 : decode cL_ticks 99 = .ok (.goto 4, 3) := by decide +kernel
theorem dL_ticks_102 : decode cL_ticks 102 = .ok (.iconst 0, 1) := by decide +kernel
theorem dL_ticks_103 : decode cL_ticks 103 = .ok (.istore 11, 2) := by decide +kernel
theorem dL_ticks_105 : decode cL_ticks 105 = .ok (.iload 11, 2) := by decide +kernel
theorem dL_ticks_107 : decode cL_ticks 107 = .ok (.ifCond .eq 107, 3) := by decide +kernel
theorem dL_ticks_110 : decode cL_ticks 110 = .ok (.iload 10, 2) := by decide +kernel
theorem dL_ticks_112 : decode cL_ticks 112 = .ok (.ifCond .eq 43, 3) := by decide +kernel
theorem dL_ticks_115 : decode cL_ticks 115 = .ok (.aload_n 0, 1) := by decide +kernel
theorem dL_ticks_116 : decode cL_ticks 116 = .ok (.invokevirtual 73, 3) := by decide +kernel
theorem dL_ticks_119 : decode cL_ticks 119 = .ok (.iload_n 3, 1) := by decide +kernel
theorem dL_ticks_120 : decode cL_ticks 120 = .ok (.ifCond .le 7, 3) := by decide +kernel
theorem dL_ticks_123 : decode cL_ticks 123 = .ok (.iconst 1, 1) := by decide +kernel
theorem dL_ticks_124 : decode cL_ticks 124 = .ok (.goto 4, 3) := by decide +kernel
theorem dL_ticks_127 : decode cL_ticks 127 = .ok (.iconst 0, 1) := by decide +kernel
theorem dL_ticks_128 : decode cL_ticks 128 = .ok (.if_icmp .ne 86, 3) := by decide +kernel
theorem dL_ticks_131 : decode cL_ticks 131 = .ok (.aload_n 0, 1) := by decide +kernel
theorem dL_ticks_132 : decode cL_ticks 132 = .ok (.invokevirtual 63, 3) := by decide +kernel
theorem dL_ticks_135 : decode cL_ticks 135 = .ok (.iload_n 3, 1) := by decide +kernel
theorem dL_ticks_136 : decode cL_ticks 136 = .ok (.bipush 6, 2) := by decide +kernel
theorem dL_ticks_138 : decode cL_ticks 138 = .ok (.if_icmp .le 10, 3) := by decide +kernel
theorem dL_ticks_141 : decode cL_ticks 141 = .ok (.iload_n 3, 1) := by decide +kernel
theorem dL_ticks_142 : decode cL_ticks 142 = .ok (.bipush 6, 2) := by decide +kernel
theorem dL_ticks_144 : decode cL_ticks 144 = .ok (.isub, 1) := by decide +kernel
theorem dL_ticks_145 : decode cL_ticks 145 = .ok (.goto 4, 3) := by decide +kernel
theorem dL_ticks_148 : decode cL_ticks 148 = .ok (.iconst 0, 1) := by decide +kernel
theorem dL_ticks_149 : decode cL_ticks 149 = .ok (.if_icmp .ne 65, 3) := by decide +kernel
theorem dL_ticks_152 : decode cL_ticks 152 = .ok (.goto 18, 3) := by decide +kernel
theorem dL_ticks_155 : decode cL_ticks 155 = .ok (.aload_n 0, 1) := by decide +kernel
theorem dL_ticks_156 : decode cL_ticks 156 = .ok (.invokevirtual 63, 3) := by decide +kernel
theorem dL_ticks_159 : decode cL_ticks 159 = .ok (.iload_n 3, 1) := by decide +kernel
theorem dL_ticks_160 : decode cL_ticks 160 = .ok (.if_icmp .eq 10, 3) := by decide +kernel
theorem dL_ticks_163 : decode cL_ticks 163 = .ok (.aload_n 0, 1) := by decide +kernel
theorem dL_ticks_164 : decode cL_ticks 164 = .ok (.invokevirtual 63, 3) := by decide +kernel
theorem dL_ticks_167 : decode cL_ticks 167 = .ok (.ifCond .ne 47, 3) := by decide +kernel
theorem dL_ticks_170 : decode cL_ticks 170 = .ok (.iload 10, 2) := by decide +kernel
theorem dL_ticks_172 : decode cL_ticks 172 = .ok (.ifCond .ne 15, 3) := by decide +kernel
theorem dL_ticks_175 : decode cL_ticks 175 = .ok (.iload_n 3, 1) := by decide +kernel
theorem dL_ticks_176 : decode cL_ticks 176 = .ok (.iload_n 1, 1) := by decide +kernel
theorem dL_ticks_177 : decode cL_ticks 177 = .ok (.if_icmp .lt 10, 3) := by decide +kernel
theorem dL_ticks_180 : decode cL_ticks 180 = .ok (.aload_n 0, 1) := by decide +kernel
theorem dL_ticks_181 : decode cL_ticks 181 = .ok (.invokevirtual 63, 3) := by decide +kernel
theorem dL_ticks_184 : decode cL_ticks 184 = .ok (.ifCond .ne 30, 3) := by decide +kernel
theorem dL_ticks_187 : decode cL_ticks 187 = .ok (.iload 10, 2) := by decide +kernel
theorem dL_ticks_189 : decode cL_ticks 189 = .ok (.ifCond .ne 21, 3) := by decide +kernel
theorem dL_ticks_192 : decode cL_ticks 192 = .ok (.aload_n 0, 1) := by decide +kernel
theorem dL_ticks_193 : decode cL_ticks 193 = .ok (.invokevirtual 73, 3) := by decide +kernel
theorem dL_ticks_196 : decode cL_ticks 196 = .ok (.ifCond .eq 14, 3) := by decide +kernel
theorem dL_ticks_199 : decode cL_ticks 199 = .ok (.aload_n 0, 1) := by decide +kernel
theorem dL_ticks_200 : decode cL_ticks 200 = .ok (.invokevirtual 63, 3) := by decide +kernel
theorem dL_ticks_203 : decode cL_ticks 203 = .ok (.ifCond .ne 11, 3) := by decide +kernel
theorem dL_ticks_206 : decode cL_ticks 206 = .ok (.iload_n 3, 1) := by decide +kernel
theorem dL_ticks_207 : decode cL_ticks 207 = .ok (.ifCond .le 7, 3) := by decide +kernel
theorem dL_ticks_210 : decode cL_ticks 210 = .ok (.iconst 1, 1) := by decide +kernel
theorem dL_ticks_211 : decode cL_ticks 211 = .ok (.goto 4, 3) := by decide +kernel
theorem dL_ticks_214 : decode cL_ticks 214 = .ok (.iconst 0, 1) := by decide +kernel
theorem dL_ticks_215 : decode cL_ticks 215 = .ok (.istore 11, 2) := by decide +kernel
theorem dL_ticks_217 : decode cL_ticks 217 = .ok (.iload 5, 2) := by decide +kernel
theorem dL_ticks_219 : decode cL_ticks 219 = .ok (.istore 12, 2) := by decide +kernel
theorem dL_ticks_221 : decode cL_ticks 221 = .ok (.iload 12, 2) := by decide +kernel
theorem dL_ticks_223 : decode cL_ticks 223 = .ok (.aload_n 0, 1) := by decide +kernel
theorem dL_ticks_224 : decode cL_ticks 224 = .ok (.invokevirtual 79, 3) := by decide +kernel
theorem dL_ticks_227 : decode cL_ticks 227 = .ok (.if_icmp .ge 77, 3) := by decide +kernel
theorem dL_ticks_230 : decode cL_ticks 230 = .ok (.iload 11, 2) := by decide +kernel
theorem dL_ticks_232 : decode cL_ticks 232 = .ok (.ifCond .eq 72, 3) := by decide +kernel
theorem dL_ticks_235 : decode cL_ticks 235 = .ok (.aload_n 0, 1) := by decide +kernel
theorem dL_ticks_236 : decode cL_ticks 236 = .ok (.aload_n 0, 1) := by decide +kernel
theorem dL_ticks_237 : decode cL_ticks 237 = .ok (.iload 12, 2) := by decide +kernel
theorem dL_ticks_239 : decode cL_ticks 239 = .ok (.invokevirtual 41, 3) := by decide +kernel
theorem dL_ticks_242 : decode cL_ticks 242 = .ok (.invokevirtual 37, 3) := by decide +kernel
theorem dL_ticks_245 : decode cL_ticks 245 = .ok (.ifCond .ne 50, 3) := by decide +kernel
theorem dL_ticks_248 : decode cL_ticks 248 = .ok (.iload 12, 2) := by decide +kernel
theorem dL_ticks_250 : decode cL_ticks 250 = .ok (.iload 5, 2) := by decide +kernel
theorem dL_ticks_252 : decode cL_ticks 252 = .ok (.if_icmp .eq 20, 3) := by decide +kernel
theorem dL_ticks_255 : decode cL_ticks 255 = .ok (.aload_n 0, 1) := by decide +kernel
theorem dL_ticks_256 : decode cL_ticks 256 = .ok (.iload 12, 2) := by decide +kernel
theorem dL_ticks_258 : decode cL_ticks 258 = .ok (.invokevirtual 41, 3) := by decide +kernel
theorem dL_ticks_261 : decode cL_ticks 261 = .ok (.aload_n 0, 1) := by decide +kernel
theorem dL_ticks_262 : decode cL_ticks 262 = .ok (.iload 12, 2) := by decide +kernel
theorem dL_ticks_264 : decode cL_ticks 264 = .ok (.iconst 1, 1) := by decide +kernel
theorem dL_ticks_265 : decode cL_ticks 265 = .ok (.isub, 1) := by decide +kernel
theorem dL_ticks_266 : decode cL_ticks 266 = .ok (.invokevirtual 41, 3) := by decide +kernel
theorem dL_ticks_269 : decode cL_ticks 269 = .ok (.if_icmp .le 26, 3) := by decide +kernel
theorem dL_ticks_272 : decode cL_ticks 272 = .ok (.iload 6, 2) := by decide +kernel
theorem dL_ticks_274 : decode cL_ticks 274 = .ok (.iconst (-1), 1) := by decide +kernel
theorem dL_ticks_275 : decode cL_ticks 275 = .ok (.if_icmp .eq 16, 3) := by decide +kernel
theorem dL_ticks_278 : decode cL_ticks 278 = .ok (.aload_n 0, 1) := by decide +kernel
theorem dL_ticks_279 : decode cL_ticks 279 = .ok (.iload 12, 2) := by decide +kernel
theorem dL_ticks_281 : decode cL_ticks 281 = .ok (.invokevirtual 41, 3) := by decide +kernel
theorem dL_ticks_284 : decode cL_ticks 284 = .ok (.iconst 3, 1) := by decide +kernel
theorem dL_ticks_285 : decode cL_ticks 285 = .ok (.idiv, 1) := by decide +kernel
theorem dL_ticks_286 : decode cL_ticks 286 = .ok (.iload 6, 2) := by decide +kernel
theorem dL_ticks_288 : decode cL_ticks 288 = .ok (.if_icmp .lt 7, 3) := by decide +kernel
theorem dL_ticks_291 : decode cL_ticks 291 = .ok (.iconst 1, 1) := by decide +kernel
theorem dL_ticks_292 : decode cL_ticks 292 = .ok (.goto 4, 3) := by decide +kernel
theorem dL_ticks_295 : decode cL_ticks 295 = .ok (.iconst 0, 1) := by decide +kernel
theorem dL_ticks_296 : decode cL_ticks 296 = .ok (.istore 11, 2) := by decide +kernel
theorem dL_ticks_298 : decode cL_ticks 298 = .ok (.iinc 12 1, 3) := by decide +kernel
theorem dL_ticks_301 : decode cL_ticks 301 = .ok (.goto (-80), 3) := by decide +kernel
theorem dL_ticks_304 : decode cL_ticks 304 = .ok (.iload 6, 2) := by decide +kernel
theorem dL_ticks_306 : decode cL_ticks 306 = .ok (.iconst (-1), 1) := by decide +kernel
theorem dL_ticks_307 : decode cL_ticks 307 = .ok (.if_icmp .ne 39, 3) := by decide +kernel
theorem dL_ticks_310 : decode cL_ticks 310 = .ok (.iload 11, 2) := by decide +kernel
theorem dL_ticks_312 : decode cL_ticks 312 = .ok (.ifCond .eq 32, 3) := by decide +kernel
theorem dL_ticks_315 : decode cL_ticks 315 = .ok (.aload_n 0, 1) := by decide +kernel
theorem dL_ticks_316 : decode cL_ticks 316 = .ok (.invokevirtual 84, 3) := by decide +kernel
theorem dL_ticks_319 : decode cL_ticks 319 = .ok (.iconst (-1), 1) := by decide +kernel
theorem dL_ticks_320 : decode cL_ticks 320 = .ok (.if_icmp .ne 24, 3) := by decide +kernel
theorem dL_ticks_323 : decode cL_ticks 323 = .ok (.aload_n 0, 1) := by decide +kernel
theorem dL_ticks_324 : decode cL_ticks 324 = .ok (.invokevirtual 89, 3) := by decide +kernel
theorem dL_ticks_327 : decode cL_ticks 327 = .ok (.iconst (-1), 1) := by decide +kernel
theorem dL_ticks_328 : decode cL_ticks 328 = .ok (.if_icmp .ne 16, 3) := by decide +kernel
theorem dL_ticks_331 : decode cL_ticks 331 = .ok (.aload_n 0, 1) := by decide +kernel
theorem dL_ticks_332 : decode cL_ticks 332 = .ok (.invokevirtual 97, 3) := by decide +kernel
theorem dL_ticks_335 : decode cL_ticks 335 = .ok (.iload 8, 2) := by decide +kernel
theorem dL_ticks_337 : decode cL_ticks 337 = .ok (.if_icmp .ne 7, 3) := by decide +kernel
theorem dL_ticks_340 : decode cL_ticks 340 = .ok (.iconst 1, 1) := by decide +kernel
theorem dL_ticks_341 : decode cL_ticks 341 = .ok (.goto 4, 3) := by decide +kernel
theorem dL_ticks_344 : decode cL_ticks 344 = .ok (.iconst 0, 1) := by decide +kernel
theorem dL_ticks_345 : decode cL_ticks 345 = .ok (.ireturn, 1) := by decide +kernel
theorem dL_ticks_346 : decode cL_ticks 346 = .ok (.iload 7, 2) := by decide +kernel
theorem dL_ticks_348 : decode cL_ticks 348 = .ok (.iload_n 2, 1) := by decide +kernel
theorem dL_ticks_349 : decode cL_ticks 349 = .ok (.if_icmp .eq 17, 3) := by decide +kernel
theorem dL_ticks_352 : decode cL_ticks 352 = .ok (.iload 7, 2) := by decide +kernel
theorem dL_ticks_354 : decode cL_ticks 354 = .ok (.iconst (-1), 1) := by decide +kernel
theorem dL_ticks_355 : decode cL_ticks 355 = .ok (.if_icmp .ne 15, 3) := by decide +kernel
theorem dL_ticks_358 : decode cL_ticks 358 = .ok (.aload_n 0, 1) := by decide +kernel
theorem dL_ticks_359 : decode cL_ticks 359 = .ok (.invokevirtual 89, 3) := by decide +kernel
theorem dL_ticks_362 : decode cL_ticks 362 = .ok (.iconst (-1), 1) := by decide +kernel
theorem dL_ticks_363 : decode cL_ticks 363 = .ok (.if_icmp .eq 7, 3) := by decide +kernel
theorem dL_ticks_366 : decode cL_ticks 366 = .ok (.iconst 1, 1) := by decide +kernel
theorem dL_ticks_367 : decode cL_ticks 367 = .ok (.goto 4, 3) := by decide +kernel
theorem dL_ticks_370 : decode cL_ticks 370 = .ok (.iconst 0, 1) := by decide +kernel
theorem dL_ticks_371 : decode cL_ticks 371 = .ok (.istore 12, 2) := by decide +kernel
theorem dL_ticks_373 : decode cL_ticks 373 = .ok (.aload_n 0, 1) := by decide +kernel
theorem dL_ticks_374 : decode cL_ticks 374 = .ok (.invokevirtual 84, 3) := by decide +kernel
theorem dL_ticks_377 : decode cL_ticks 377 = .ok (.iconst (-1), 1) := by decide +kernel
theorem dL_ticks_378 : decode cL_ticks 378 = .ok (.if_icmp .ne 8, 3) := by decide +kernel
theorem dL_ticks_381 : decode cL_ticks 381 = .ok (.bipush 100, 2) := by decide +kernel
theorem dL_ticks_383 : decode cL_ticks 383 = .ok (.goto 7, 3) := by decide +kernel
theorem dL_ticks_386 : decode cL_ticks 386 = .ok (.aload_n 0, 1) := by decide +kernel
theorem dL_ticks_387 : decode cL_ticks 387 = .ok (.invokevirtual 84, 3) := by decide +kernel
theorem dL_ticks_390 : decode cL_ticks 390 = .ok (.istore 13, 2) := by decide +kernel
theorem dL_ticks_392 : decode cL_ticks 392 = .ok (.iload 11, 2) := by decide +kernel
theorem dL_ticks_394 : decode cL_ticks 394 = .ok (.ifCond .eq 57, 3) := by decide +kernel
theorem dL_ticks_397 : decode cL_ticks 397 = .ok (.iload 13, 2) := by decide +kernel
theorem dL_ticks_399 : decode cL_ticks 399 = .ok (.iload 6, 2) := by decide +kernel
theorem dL_ticks_401 : decode cL_ticks 401 = .ok (.iload 12, 2) := by decide +kernel
theorem dL_ticks_403 : decode cL_ticks 403 = .ok (.ifCond .eq 7, 3) := by decide +kernel
theorem dL_ticks_406 : decode cL_ticks 406 = .ok (.iconst 1, 1) := by decide +kernel
theorem dL_ticks_407 : decode cL_ticks 407 = .ok (.goto 4, 3) := by decide +kernel
theorem dL_ticks_410 : decode cL_ticks 410 = .ok (.iconst 0, 1) := by decide +kernel
theorem dL_ticks_411 : decode cL_ticks 411 = .ok (.iadd, 1) := by decide +kernel
theorem dL_ticks_412 : decode cL_ticks 412 = .ok (.if_icmp .ne 39, 3) := by decide +kernel
theorem dL_ticks_415 : decode cL_ticks 415 = .ok (.iload 12, 2) := by decide +kernel
theorem dL_ticks_417 : decode cL_ticks 417 = .ok (.ifCond .ne 21, 3) := by decide +kernel
theorem dL_ticks_420 : decode cL_ticks 420 = .ok (.aload_n 0, 1) := by decide +kernel
theorem dL_ticks_421 : decode cL_ticks 421 = .ok (.invokevirtual 89, 3) := by decide +kernel
theorem dL_ticks_424 : decode cL_ticks 424 = .ok (.iload 7, 2) := by decide +kernel
theorem dL_ticks_426 : decode cL_ticks 426 = .ok (.if_icmp .ne 25, 3) := by decide +kernel
theorem dL_ticks_429 : decode cL_ticks 429 = .ok (.aload_n 0, 1) := by decide +kernel
theorem dL_ticks_430 : decode cL_ticks 430 = .ok (.invokevirtual 97, 3) := by decide +kernel
theorem dL_ticks_433 : decode cL_ticks 433 = .ok (.iload 8, 2) := by decide +kernel
theorem dL_ticks_435 : decode cL_ticks 435 = .ok (.if_icmp .ne 16, 3) := by decide +kernel
theorem dL_ticks_438 : decode cL_ticks 438 = .ok (.aload_n 0, 1) := by decide +kernel
theorem dL_ticks_439 : decode cL_ticks 439 = .ok (.invokevirtual 100, 3) := by decide +kernel
theorem dL_ticks_442 : decode cL_ticks 442 = .ok (.iload 9, 2) := by decide +kernel
theorem dL_ticks_444 : decode cL_ticks 444 = .ok (.if_icmp .lt 7, 3) := by decide +kernel
theorem dL_ticks_447 : decode cL_ticks 447 = .ok (.iconst 1, 1) := by decide +kernel
theorem dL_ticks_448 : decode cL_ticks 448 = .ok (.goto 4, 3) := by decide +kernel
theorem dL_ticks_451 : decode cL_ticks 451 = .ok (.iconst 0, 1) := by decide +kernel
theorem dL_ticks_452 : decode cL_ticks 452 = .ok (.istore 11, 2) := by decide +kernel
theorem dL_ticks_454 : decode cL_ticks 454 = .ok (.iload 12, 2) := by decide +kernel
theorem dL_ticks_456 : decode cL_ticks 456 = .ok (.ifCond .eq 134, 3) := by decide +kernel
theorem dL_ticks_459 : decode cL_ticks 459 = .ok (.iload 11, 2) := by decide +kernel
theorem dL_ticks_461 : decode cL_ticks 461 = .ok (.ifCond .eq 129, 3) := by decide +kernel
theorem dL_ticks_464 : decode cL_ticks 464 = .ok (.aload_n 0, 1) := by decide +kernel
theorem dL_ticks_465 : decode cL_ticks 465 = .ok (.iload 6, 2) := by decide +kernel
theorem dL_ticks_467 : decode cL_ticks 467 = .ok (.invokevirtual 54, 3) := by decide +kernel
theorem dL_ticks_470 : decode cL_ticks 470 = .ok (.istore 14, 2) := by decide +kernel
theorem dL_ticks_472 : decode cL_ticks 472 = .ok (.aload_n 0, 1) := by decide +kernel
theorem dL_ticks_473 : decode cL_ticks 473 = .ok (.invokevirtual 94, 3) := by decide +kernel
theorem dL_ticks_476 : decode cL_ticks 476 = .ok (.istore 15, 2) := by decide +kernel
theorem dL_ticks_478 : decode cL_ticks 478 = .ok (.iload 14, 2) := by decide +kernel
theorem dL_ticks_480 : decode cL_ticks 480 = .ok (.ifCond .le 107, 3) := by decide +kernel
theorem dL_ticks_483 : decode cL_ticks 483 = .ok (.aload_n 0, 1) := by decide +kernel
theorem dL_ticks_484 : decode cL_ticks 484 = .ok (.invokevirtual 97, 3) := by decide +kernel
theorem dL_ticks_487 : decode cL_ticks 487 = .ok (.iload 8, 2) := by decide +kernel
theorem dL_ticks_489 : decode cL_ticks 489 = .ok (.iload 14, 2) := by decide +kernel
theorem dL_ticks_491 : decode cL_ticks 491 = .ok (.iconst 1, 1) := by decide +kernel
theorem dL_ticks_492 : decode cL_ticks 492 = .ok (.if_icmp .ne 7, 3) := by decide +kernel
theorem dL_ticks_495 : decode cL_ticks 495 = .ok (.iconst 1, 1) := by decide +kernel
theorem dL_ticks_496 : decode cL_ticks 496 = .ok (.goto 4, 3) := by decide +kernel
theorem dL_ticks_499 : decode cL_ticks 499 = .ok (.iconst 0, 1) := by decide +kernel
theorem dL_ticks_500 : decode cL_ticks 500 = .ok (.iadd, 1) := by decide +kernel
theorem dL_ticks_501 : decode cL_ticks 501 = .ok (.if_icmp .ne 86, 3) := by decide +kernel
theorem dL_ticks_504 : decode cL_ticks 504 = .ok (.iload 14, 2) := by decide +kernel
theorem dL_ticks_506 : decode cL_ticks 506 = .ok (.iconst 2, 1) := by decide +kernel
theorem dL_ticks_507 : decode cL_ticks 507 = .ok (.if_icmp .ne 7, 3) := by decide +kernel
theorem dL_ticks_510 : decode cL_ticks 510 = .ok (.iconst 1, 1) := by decide +kernel
theorem dL_ticks_511 : decode cL_ticks 511 = .ok (.goto 4, 3) := by decide +kernel
theorem dL_ticks_514 : decode cL_ticks 514 = .ok (.iconst 0, 1) := by decide +kernel
theorem dL_ticks_515 : decode cL_ticks 515 = .ok (.aload_n 0, 1) := by decide +kernel
theorem dL_ticks_516 : decode cL_ticks 516 = .ok (.iload 6, 2) := by decide +kernel
theorem dL_ticks_518 : decode cL_ticks 518 = .ok (.invokevirtual 51, 3) := by decide +kernel
theorem dL_ticks_521 : decode cL_ticks 521 = .ok (.ifCond .ne 7, 3) := by decide +kernel
theorem dL_ticks_524 : decode cL_ticks 524 = .ok (.iconst 1, 1) := by decide +kernel
theorem dL_ticks_525 : decode cL_ticks 525 = .ok (.goto 4, 3) := by decide +kernel
theorem dL_ticks_528 : decode cL_ticks 528 = .ok (.iconst 0, 1) := by decide +kernel
theorem dL_ticks_529 : decode cL_ticks 529 = .ok (.if_icmp .ne 58, 3) := by decide +kernel
theorem dL_ticks_532 : decode cL_ticks 532 = .ok (.iload 13, 2) := by decide +kernel
theorem dL_ticks_534 : decode cL_ticks 534 = .ok (.bipush 100, 2) := by decide +kernel
theorem dL_ticks_536 : decode cL_ticks 536 = .ok (.if_icmp .ne 14, 3) := by decide +kernel
theorem dL_ticks_539 : decode cL_ticks 539 = .ok (.aload_n 0, 1) := by decide +kernel
theorem dL_ticks_540 : decode cL_ticks 540 = .ok (.invokevirtual 89, 3) := by decide +kernel
theorem dL_ticks_543 : decode cL_ticks 543 = .ok (.iconst (-1), 1) := by decide +kernel
theorem dL_ticks_544 : decode cL_ticks 544 = .ok (.if_icmp .ne 43, 3) := by decide +kernel
theorem dL_ticks_547 : decode cL_ticks 547 = .ok (.goto 36, 3) := by decide +kernel
theorem dL_ticks_550 : decode cL_ticks 550 = .ok (.aload_n 0, 1) := by decide +kernel
theorem dL_ticks_551 : decode cL_ticks 551 = .ok (.invokevirtual 89, 3) := by decide +kernel
theorem dL_ticks_554 : decode cL_ticks 554 = .ok (.iload_n 2, 1) := by decide +kernel
theorem dL_ticks_555 : decode cL_ticks 555 = .ok (.iload 15, 2) := by decide +kernel
theorem dL_ticks_557 : decode cL_ticks 557 = .ok (.iconst 5, 1) := by decide +kernel
theorem dL_ticks_558 : decode cL_ticks 558 = .ok (.if_icmp .le 8, 3) := by decide +kernel
theorem dL_ticks_561 : decode cL_ticks 561 = .ok (.bipush 9, 2) := by decide +kernel
theorem dL_ticks_563 : decode cL_ticks 563 = .ok (.goto 16, 3) := by decide +kernel
theorem dL_ticks_566 : decode cL_ticks 566 = .ok (.iload 15, 2) := by decide +kernel
theorem dL_ticks_568 : decode cL_ticks 568 = .ok (.iconst 2, 1) := by decide +kernel
theorem dL_ticks_569 : decode cL_ticks 569 = .ok (.if_icmp .ge 8, 3) := by decide +kernel
theorem dL_ticks_572 : decode cL_ticks 572 = .ok (.bipush 11, 2) := by decide +kernel
theorem dL_ticks_574 : decode cL_ticks 574 = .ok (.goto 5, 3) := by decide +kernel
theorem dL_ticks_577 : decode cL_ticks 577 = .ok (.bipush 10, 2) := by decide +kernel
theorem dL_ticks_579 : decode cL_ticks 579 = .ok (.iadd, 1) := by decide +kernel
theorem dL_ticks_580 : decode cL_ticks 580 = .ok (.if_icmp .ne 7, 3) := by decide +kernel
theorem dL_ticks_583 : decode cL_ticks 583 = .ok (.iconst 1, 1) := by decide +kernel
theorem dL_ticks_584 : decode cL_ticks 584 = .ok (.goto 4, 3) := by decide +kernel
theorem dL_ticks_587 : decode cL_ticks 587 = .ok (.iconst 0, 1) := by decide +kernel
theorem dL_ticks_588 : decode cL_ticks 588 = .ok (.istore 11, 2) := by decide +kernel
theorem dL_ticks_590 : decode cL_ticks 590 = .ok (.iload 11, 2) := by decide +kernel
theorem dL_ticks_592 : decode cL_ticks 592 = .ok (.ireturn, 1) := by decide +kernel
set_option maxRecDepth 20000 in
theorem ggL_law_X3_init : GoodIn wsL_law wsX3_init := goodIn_r _ [5, 6, 7, 8, 9, 10, 11, 12, 13, 14, 15, 16, 17, 18, 19, 20, 21, 22, 23, 24, 25, 26, 27, 28, 29, 30, 31, 32, 33, 34, 35, 36, 37, 38, 39, 40, 41, 42, 43, 44, 45, 46, 47, 48, 49, 50, 51, 52, 315, 316, 317, 318, 319, 320, 321, 322, 323, 311, 312, 313, 314, 324, 325, 326, 327, 328, 329, 330, 331, 332, 333, 334] (by decide +kernel) (by decide +kernel)
set_option maxRecDepth 20000 in
theorem gL_law_X3_init : GoodIn wsL_law (wsX3_init) := ggL_law_X3_init
set_option maxRecDepth 20000 in
theorem ggL_law_L_all : GoodIn wsL_law wsL_all := goodIn_ca (goodIn_r _ [56, 57, 58, 59, 60, 61, 62, 63, 64, 65, 66, 67, 68, 69, 2, 70, 71, 72, 73, 74, 75, 12, 76, 77, 78, 79, 80, 81, 82, 83, 84, 85, 86, 87, 16, 88, 89, 90, 91, 20, 92, 93, 94, 95, 96, 97, 98, 99, 100, 101, 102, 19, 103, 48, 52, 104, 105, 106, 15, 107, 38, 108, 109, 110, 111, 112, 113, 114, 115, 116, 117, 118, 119, 120, 121, 122, 123, 124, 125, 126, 127, 128, 129, 130, 131, 132, 133, 134, 135, 136, 137, 138, 139, 140, 141, 142, 143, 144, 50, 49, 145, 146, 147, 148, 149, 150, 151, 152, 153, 154, 155, 156, 157, 158, 159, 160, 161, 162, 163, 164, 311, 312, 313, 314, 315, 316, 317, 318, 319, 320, 321, 322, 323, 324, 325, 326, 327, 328, 329, 330, 331, 332, 333, 334] (by decide +kernel) (by decide +kernel)) (goodIn_sub (fun _ h => List.mem_append_left _ (List.mem_append_left _ (List.mem_append_right _ h))) (by decide +kernel))
set_option maxRecDepth 20000 in
theorem gL_law_L_all : GoodIn wsL_law (va_wsS RL 112 yL_all wsL_all) := goodIn_app (goodIn_of _ (by decide +kernel)) ggL_law_L_all
set_option maxRecDepth 20000 in
theorem ggL_law_L_refused : GoodIn wsL_law wsL_refused := goodIn_ca (goodIn_ca (goodIn_ca (goodIn_r _ [167, 53, 54, 55, 56, 57, 58, 59, 60, 61, 62, 63, 64, 65, 66, 67, 68, 69, 2, 70, 71, 72, 73, 74, 75, 12, 76, 77, 78, 79, 80, 81, 82, 83, 84, 85, 86, 87, 16, 88, 89, 90, 91, 20, 92, 93, 94, 95, 96, 97, 98, 99, 100, 101, 102, 19, 103, 48, 52, 104, 105, 106, 15, 107, 38, 108, 109, 110, 111, 112, 113, 114, 115, 116, 117, 118, 119, 120, 121, 122, 123, 124, 125, 126, 127, 128, 129, 130, 131, 132, 133, 134, 135, 136, 137, 138, 139, 140, 141, 142, 143, 144, 50, 49, 145, 146, 147, 148, 149, 150, 151, 152, 153, 154, 155, 156, 157, 158, 159, 160, 161, 162, 163, 164, 168, 169, 170, 171, 172, 173, 174, 175, 176, 177, 178, 179, 180, 181, 182, 183, 184, 185, 186, 187, 188, 189, 190, 191, 192, 11, 193, 27, 28, 33, 25, 26, 194, 195, 196, 197, 198, 199, 200, 201, 202, 203, 204, 205, 206, 207, 208, 209, 210, 211, 32, 212, 213, 214, 215, 31, 216, 217, 218, 219, 29, 30, 220, 221, 222, 223, 224, 225, 226, 227, 41, 228, 229, 230, 231, 232, 233, 234, 235, 236, 237, 238, 239, 42, 240, 241, 242, 243, 244, 40, 39, 245, 246, 247, 248, 249, 250, 251, 252, 253, 254, 255, 256, 47, 51, 257, 258, 259, 260, 261, 262, 263, 264, 265, 266, 267, 268, 269, 270, 271, 272, 273, 274, 275, 276, 277, 278, 279, 280, 281, 282, 283, 284, 285, 286, 287, 288, 289, 311, 312, 313, 314, 315, 316, 317, 318, 319, 320, 321, 322, 323, 324, 325, 326, 327, 328, 329, 330, 331, 332, 333, 334] (by decide +kernel) (by decide +kernel)) (goodIn_sub (fun _ h => List.mem_append_left _ (List.mem_append_left _ (List.mem_append_right _ h))) (by decide +kernel))) (goodIn_sub (fun _ h => List.mem_append_left _ (List.mem_append_right _ h)) (by decide +kernel))) (goodIn_sub (fun _ h => List.mem_append_right _ h) (by decide +kernel))
set_option maxRecDepth 20000 in
theorem gL_law_L_refused : GoodIn wsL_law (va_wsS RL 123 yL_refused wsL_refused) := goodIn_app (goodIn_of _ (by decide +kernel)) ggL_law_L_refused
set_option maxRecDepth 20000 in
theorem ggL_law_L_cell : GoodIn wsL_law wsL_cell := goodIn_r _ [292, 293] (by decide +kernel) (by decide +kernel)
set_option maxRecDepth 20000 in
theorem gL_law_L_cell : GoodIn wsL_law (va_wsS RL 127 yL_cell wsL_cell) := goodIn_app (goodIn_of _ (by decide +kernel)) ggL_law_L_cell
set_option maxRecDepth 20000 in
theorem ggL_law_L_some : GoodIn wsL_law wsL_some := goodIn_r _ [296] (by decide +kernel) (by decide +kernel)
set_option maxRecDepth 20000 in
theorem gL_law_L_some : GoodIn wsL_law (va_wsS RL 119 yL_some wsL_some) := goodIn_app (goodIn_of _ (by decide +kernel)) ggL_law_L_some
set_option maxRecDepth 20000 in
theorem ggL_law_L_comes : GoodIn wsL_law wsL_comes := goodIn_ca (goodIn_ca (goodIn_ca (goodIn_r _ [299, 72, 73, 74, 2, 75, 12, 76, 77, 78, 79, 88, 89, 90, 91, 20, 294, 295, 55, 296, 145, 146, 147, 148, 149, 150, 16, 151, 152, 153, 154, 155, 156, 15, 157, 38, 186, 187, 188, 189, 71, 190, 191, 192, 11, 193, 27, 28, 33, 25, 26, 168, 169, 170, 171, 172, 173, 174, 175, 176, 177, 178, 179, 180, 181, 182, 183, 184, 185, 194, 195, 196, 197, 198, 199, 200, 201, 202, 203, 204, 205, 206, 207, 208, 209, 210, 211, 32, 212, 213, 214, 215, 31, 216, 217, 218, 219, 29, 30, 220, 221, 222, 223, 224, 225, 226, 227, 41, 228, 229, 230, 231, 232, 233, 234, 235, 236, 237, 238, 239, 42, 240, 241, 242, 243, 244, 40, 39, 245, 246, 247, 19, 248, 49, 50, 249, 250, 251, 252, 52, 104, 105, 106, 107, 253, 254, 255, 256, 48, 47, 51, 163, 164, 257, 258, 259, 260, 120, 121, 122, 123, 124, 125, 134, 135, 136, 261, 262, 263, 264, 130, 131, 132, 133, 265, 266, 267, 268, 269, 101, 102, 103, 270, 271, 272, 273, 274, 275, 276, 277, 162, 278, 279, 280, 281, 282, 283, 284, 285, 286, 287, 288, 289, 158, 159, 160, 161, 311, 312, 313, 314, 315, 316, 317, 318, 319, 320, 321, 322, 323, 329, 330, 331, 332, 333, 334, 324, 325, 326, 327, 328] (by decide +kernel) (by decide +kernel)) (goodIn_sub (fun _ h => List.mem_append_left _ (List.mem_append_left _ (List.mem_append_right _ h))) (by decide +kernel))) (goodIn_sub (fun _ h => List.mem_append_left _ (List.mem_append_right _ h)) (by decide +kernel))) (goodIn_sub (fun _ h => List.mem_append_right _ h) (by decide +kernel))
set_option maxRecDepth 20000 in
theorem gL_law_L_comes : GoodIn wsL_law (va_wsS RL 131 yL_comes wsL_comes) := goodIn_app (goodIn_of _ (by decide +kernel)) ggL_law_L_comes
set_option maxRecDepth 20000 in
theorem ggL_law_L_call : GoodIn wsL_law wsL_call := goodIn_ca (goodIn_ca (goodIn_ca (goodIn_r _ [170, 171, 172, 173, 174, 175, 55, 176, 177, 178, 179, 2, 180, 181, 182, 12, 183, 184, 185, 186, 187, 188, 189, 149, 150, 71, 151, 152, 153, 190, 191, 192, 11, 193, 27, 28, 33, 25, 26, 194, 195, 196, 197, 198, 199, 200, 201, 202, 203, 204, 205, 206, 207, 16, 20, 208, 209, 210, 211, 32, 212, 213, 214, 215, 31, 216, 217, 218, 219, 29, 30, 220, 221, 222, 223, 224, 225, 226, 15, 227, 38, 41, 228, 229, 230, 231, 232, 233, 234, 235, 236, 237, 238, 239, 42, 240, 155, 156, 157, 241, 242, 243, 244, 40, 39, 245, 246, 247, 19, 248, 49, 50, 249, 250, 251, 252, 52, 104, 105, 106, 107, 253, 254, 255, 256, 48, 47, 51, 163, 164, 257, 258, 259, 260, 120, 121, 122, 123, 124, 125, 134, 135, 136, 261, 262, 263, 264, 130, 131, 132, 133, 265, 266, 267, 268, 269, 101, 102, 103, 145, 146, 147, 148, 154, 270, 271, 272, 273, 274, 275, 276, 277, 162, 278, 279, 280, 281, 282, 283, 284, 285, 286, 287, 288, 289, 158, 159, 160, 161, 311, 312, 313, 314, 315, 316, 317, 318, 319, 320, 321, 322, 323, 329, 330, 331, 332, 333, 334, 324, 325, 326, 327, 328] (by decide +kernel) (by decide +kernel)) (goodIn_sub (fun _ h => List.mem_append_left _ (List.mem_append_right _ h)) (by decide +kernel))) (goodIn_sub (fun _ h => List.mem_append_left _ (List.mem_append_left _ (List.mem_append_right _ h))) (by decide +kernel))) (goodIn_sub (fun _ h => List.mem_append_right _ h) (by decide +kernel))
set_option maxRecDepth 20000 in
theorem gL_law_L_call : GoodIn wsL_law (va_wsS RL 116 yL_call wsL_call) := goodIn_app (goodIn_of _ (by decide +kernel)) ggL_law_L_call
set_option maxRecDepth 20000 in
theorem ggL_law_X3_waiting : GoodIn wsL_law wsX3_waiting := goodIn_r _ [75, 12, 311, 312, 313, 314, 315, 316, 317, 318, 319, 320, 321, 322, 323] (by decide +kernel) (by decide +kernel)
set_option maxRecDepth 20000 in
theorem gL_law_X3_waiting : GoodIn wsL_law (wsV RL 63 RX3 yX3_waiting wsX3_waiting) := goodIn_app (goodIn_of _ (by decide +kernel)) ggL_law_X3_waiting
set_option maxRecDepth 20000 in
theorem ggL_law_X3_lost : GoodIn wsL_law wsX3_lost := goodIn_r _ [79, 12, 311, 312, 313, 314, 315, 316, 317, 318, 319, 320, 321, 322, 323] (by decide +kernel) (by decide +kernel)
set_option maxRecDepth 20000 in
theorem gL_law_X3_lost : GoodIn wsL_law (wsV RL 68 RX3 yX3_lost wsX3_lost) := goodIn_app (goodIn_of _ (by decide +kernel)) ggL_law_X3_lost
set_option maxRecDepth 20000 in
theorem ggL_law_X3_reset : GoodIn wsL_law wsX3_reset := goodIn_r _ [306, 12, 307, 308, 309, 11, 310, 27, 33, 32, 311, 312, 313, 314, 315, 316, 317, 318, 319, 320, 321, 322, 323] (by decide +kernel) (by decide +kernel)
set_option maxRecDepth 20000 in
theorem gL_law_X3_reset : GoodIn wsL_law (wsV RL 139 RX3 yX3_reset wsX3_reset) := goodIn_app (goodIn_of _ (by decide +kernel)) ggL_law_X3_reset
set_option maxRecDepth 20000 in
theorem ggL_law_X3_isPolled : GoodIn wsL_law wsX3_isPolled := goodIn_r _ [83, 12, 311, 312, 313, 314, 315, 316, 317, 318, 319, 320, 321, 322, 323] (by decide +kernel) (by decide +kernel)
set_option maxRecDepth 20000 in
theorem gL_law_X3_isPolled : GoodIn wsL_law (wsV RL 73 RX3 yX3_isPolled wsX3_isPolled) := goodIn_app (goodIn_of _ (by decide +kernel)) ggL_law_X3_isPolled
theorem dL_law_0 : decode cL_law 0 = .ok (.new 21, 3) := by decide +kernel
theorem dL_law_3 : decode cL_law 3 = .ok (.dup, 1) := by decide +kernel
theorem dL_law_4 : decode cL_law 4 = .ok (.invokespecial 122, 3) := by decide +kernel
theorem dL_law_7 : decode cL_law 7 = .ok (.astore_n 1, 1) := by decide +kernel
theorem dL_law_8 : decode cL_law 8 = .ok (.bipush 16, 2) := by decide +kernel
theorem dL_law_10 : decode cL_law 10 = .ok (.istore_n 2, 1) := by decide +kernel
theorem dL_law_11 : decode cL_law 11 = .ok (.iconst 4, 1) := by decide +kernel
theorem dL_law_12 : decode cL_law 12 = .ok (.istore_n 3, 1) := by decide +kernel
theorem dL_law_13 : decode cL_law 13 = .ok (.aload_n 1, 1) := by decide +kernel
theorem dL_law_14 : decode cL_law 14 = .ok (.invokestatic 112, 3) := by decide +kernel
theorem dL_law_17 : decode cL_law 17 = .ok (.aload_n 1, 1) := by decide +kernel
theorem dL_law_18 : decode cL_law 18 = .ok (.invokestatic 112, 3) := by decide +kernel
theorem dL_law_21 : decode cL_law 21 = .ok (.lcmp, 1) := by decide +kernel
theorem dL_law_22 : decode cL_law 22 = .ok (.ifCond .ne 14, 3) := by decide +kernel
theorem dL_law_25 : decode cL_law 25 = .ok (.aload_n 1, 1) := by decide +kernel
theorem dL_law_26 : decode cL_law 26 = .ok (.invokestatic 123, 3) := by decide +kernel
theorem dL_law_29 : decode cL_law 29 = .ok (.ifCond .eq 7, 3) := by decide +kernel
theorem dL_law_32 : decode cL_law 32 = .ok (.iconst 1, 1) := by decide +kernel
theorem dL_law_33 : decode cL_law 33 = .ok (.goto 4, 3) := by decide +kernel
theorem dL_law_36 : decode cL_law 36 = .ok (.iconst 0, 1) := by decide +kernel
theorem dL_law_37 : decode cL_law 37 = .ok (.istore 4, 2) := by decide +kernel
theorem dL_law_39 : decode cL_law 39 = .ok (.iconst 0, 1) := by decide +kernel
theorem dL_law_40 : decode cL_law 40 = .ok (.istore 5, 2) := by decide +kernel
theorem dL_law_42 : decode cL_law 42 = .ok (.iload 5, 2) := by decide +kernel
theorem dL_law_44 : decode cL_law 44 = .ok (.sipush 150, 3) := by decide +kernel
theorem dL_law_47 : decode cL_law 47 = .ok (.if_icmp .ge 311, 3) := by decide +kernel
theorem dL_law_50 : decode cL_law 50 = .ok (.iload 4, 2) := by decide +kernel
theorem dL_law_52 : decode cL_law 52 = .ok (.ifCond .eq 306, 3) := by decide +kernel
theorem dL_law_55 : decode cL_law 55 = .ok (.aload_n 0, 1) := by decide +kernel
theorem dL_law_56 : decode cL_law 56 = .ok (.iconst 2, 1) := by decide +kernel
theorem dL_law_57 : decode cL_law 57 = .ok (.iload 5, 2) := by decide +kernel
theorem dL_law_59 : decode cL_law 59 = .ok (.imul, 1) := by decide +kernel
theorem dL_law_60 : decode cL_law 60 = .ok (.invokestatic 127, 3) := by decide +kernel
theorem dL_law_63 : decode cL_law 63 = .ok (.istore 6, 2) := by decide +kernel
theorem dL_law_65 : decode cL_law 65 = .ok (.aload_n 0, 1) := by decide +kernel
theorem dL_law_66 : decode cL_law 66 = .ok (.iconst 2, 1) := by decide +kernel
theorem dL_law_67 : decode cL_law 67 = .ok (.iload 5, 2) := by decide +kernel
theorem dL_law_69 : decode cL_law 69 = .ok (.imul, 1) := by decide +kernel
theorem dL_law_70 : decode cL_law 70 = .ok (.iconst 1, 1) := by decide +kernel
theorem dL_law_71 : decode cL_law 71 = .ok (.iadd, 1) := by decide +kernel
theorem dL_law_72 : decode cL_law 72 = .ok (.invokestatic 127, 3) := by decide +kernel
theorem dL_law_75 : decode cL_law 75 = .ok (.istore 7, 2) := by decide +kernel
theorem dL_law_77 : decode cL_law 77 = .ok (.iload 6, 2) := by decide +kernel
theorem dL_law_79 : decode cL_law 79 = .ok (.bipush 16, 2) := by decide +kernel
theorem dL_law_81 : decode cL_law 81 = .ok (.invokestatic 119, 3) := by decide +kernel
theorem dL_law_84 : decode cL_law 84 = .ok (.istore 8, 2) := by decide +kernel
theorem dL_law_86 : decode cL_law 86 = .ok (.iload 8, 2) := by decide +kernel
theorem dL_law_88 : decode cL_law 88 = .ok (.bipush 6, 2) := by decide +kernel
theorem dL_law_90 : decode cL_law 90 = .ok (.if_icmp .ge 15, 3) := by decide +kernel
theorem dL_law_93 : decode cL_law 93 = .ok (.aload_n 1, 1) := by decide +kernel
theorem dL_law_94 : decode cL_law 94 = .ok (.iload_n 2, 1) := by decide +kernel
theorem dL_law_95 : decode cL_law 95 = .ok (.iload 7, 2) := by decide +kernel
theorem dL_law_97 : decode cL_law 97 = .ok (.invokestatic 131, 3) := by decide +kernel
theorem dL_law_100 : decode cL_law 100 = .ok (.istore 4, 2) := by decide +kernel
theorem dL_law_102 : decode cL_law 102 = .ok (.goto 226, 3) := by decide +kernel
theorem dL_law_105 : decode cL_law 105 = .ok (.iload 8, 2) := by decide +kernel
theorem dL_law_107 : decode cL_law 107 = .ok (.bipush 13, 2) := by decide +kernel
theorem dL_law_109 : decode cL_law 109 = .ok (.if_icmp .ge 44, 3) := by decide +kernel
theorem dL_law_112 : decode cL_law 112 = .ok (.aload_n 1, 1) := by decide +kernel
theorem dL_law_113 : decode cL_law 113 = .ok (.iload_n 3, 1) := by decide +kernel
theorem dL_law_114 : decode cL_law 114 = .ok (.invokestatic 135, 3) := by decide +kernel
theorem dL_law_117 : decode cL_law 117 = .ok (.istore 4, 2) := by decide +kernel
theorem dL_law_119 : decode cL_law 119 = .ok (.iload 7, 2) := by decide +kernel
theorem dL_law_121 : decode cL_law 121 = .ok (.iconst 5, 1) := by decide +kernel
theorem dL_law_122 : decode cL_law 122 = .ok (.invokestatic 119, 3) := by decide +kernel
theorem dL_law_125 : decode cL_law 125 = .ok (.istore 9, 2) := by decide +kernel
theorem dL_law_127 : decode cL_law 127 = .ok (.iload 9, 2) := by decide +kernel
theorem dL_law_129 : decode cL_law 129 = .ok (.ifCond .le 21, 3) := by decide +kernel
theorem dL_law_132 : decode cL_law 132 = .ok (.iload 4, 2) := by decide +kernel
theorem dL_law_134 : decode cL_law 134 = .ok (.ifCond .eq 16, 3) := by decide +kernel
theorem dL_law_137 : decode cL_law 137 = .ok (.aload_n 1, 1) := by decide +kernel
theorem dL_law_138 : decode cL_law 138 = .ok (.iload_n 3, 1) := by decide +kernel
theorem dL_law_139 : decode cL_law 139 = .ok (.invokestatic 135, 3) := by decide +kernel
theorem dL_law_142 : decode cL_law 142 = .ok (.istore 4, 2) := by decide +kernel
theorem dL_law_144 : decode cL_law 144 = .ok (.iinc 9 (-1), 3) := by decide +kernel
theorem dL_law_147 : decode cL_law 147 = .ok (.goto (-20), 3) := by decide +kernel
theorem dL_law_150 : decode cL_law 150 = .ok (.goto 178, 3) := by decide +kernel
theorem dL_law_153 : decode cL_law 153 = .ok (.iload 8, 2) := by decide +kernel
theorem dL_law_155 : decode cL_law 155 = .ok (.bipush 14, 2) := by decide +kernel
theorem dL_law_157 : decode cL_law 157 = .ok (.if_icmp .ge 85, 3) := by decide +kernel
theorem dL_law_160 : decode cL_law 160 = .ok (.iconst 1, 1) := by decide +kernel
theorem dL_law_161 : decode cL_law 161 = .ok (.iload 7, 2) := by decide +kernel
theorem dL_law_163 : decode cL_law 163 = .ok (.bipush 24, 2) := by decide +kernel
theorem dL_law_165 : decode cL_law 165 = .ok (.invokestatic 119, 3) := by decide +kernel
theorem dL_law_168 : decode cL_law 168 = .ok (.iadd, 1) := by decide +kernel
theorem dL_law_169 : decode cL_law 169 = .ok (.istore_n 2, 1) := by decide +kernel
theorem dL_law_170 : decode cL_law 170 = .ok (.iconst 1, 1) := by decide +kernel
theorem dL_law_171 : decode cL_law 171 = .ok (.iload 7, 2) := by decide +kernel
theorem dL_law_173 : decode cL_law 173 = .ok (.iconst 4, 1) := by decide +kernel
theorem dL_law_174 : decode cL_law 174 = .ok (.ishr, 1) := by decide +kernel
theorem dL_law_175 : decode cL_law 175 = .ok (.bipush 8, 2) := by decide +kernel
theorem dL_law_177 : decode cL_law 177 = .ok (.invokestatic 119, 3) := by decide +kernel
theorem dL_law_180 : decode cL_law 180 = .ok (.iadd, 1) := by decide +kernel
theorem dL_law_181 : decode cL_law 181 = .ok (.istore_n 3, 1) := by decide +kernel
theorem dL_law_182 : decode cL_law 182 = .ok (.aload_n 1, 1) := by decide +kernel
theorem dL_law_183 : decode cL_law 183 = .ok (.invokestatic 112, 3) := by decide +kernel
theorem dL_law_186 : decode cL_law 186 = .ok (.lstore 9, 2) := by decide +kernel
theorem dL_law_188 : decode cL_law 188 = .ok (.aload_n 1, 1) := by decide +kernel
theorem dL_law_189 : decode cL_law 189 = .ok (.iconst 0, 1) := by decide +kernel
theorem dL_law_190 : decode cL_law 190 = .ok (.iload_n 2, 1) := by decide +kernel
theorem dL_law_191 : decode cL_law 191 = .ok (.iload_n 3, 1) := by decide +kernel
theorem dL_law_192 : decode cL_law 192 = .ok (.iconst 1, 1) := by decide +kernel
theorem dL_law_193 : decode cL_law 193 = .ok (.iload 7, 2) := by decide +kernel
theorem dL_law_195 : decode cL_law 195 = .ok (.bipush 7, 2) := by decide +kernel
theorem dL_law_197 : decode cL_law 197 = .ok (.ishr, 1) := by decide +kernel
theorem dL_law_198 : decode cL_law 198 = .ok (.bipush 6, 2) := by decide +kernel
theorem dL_law_200 : decode cL_law 200 = .ok (.invokestatic 119, 3) := by decide +kernel
theorem dL_law_203 : decode cL_law 203 = .ok (.iadd, 1) := by decide +kernel
theorem dL_law_204 : decode cL_law 204 = .ok (.iconst 1, 1) := by decide +kernel
theorem dL_law_205 : decode cL_law 205 = .ok (.iload 7, 2) := by decide +kernel
theorem dL_law_207 : decode cL_law 207 = .ok (.bipush 10, 2) := by decide +kernel
theorem dL_law_209 : decode cL_law 209 = .ok (.ishr, 1) := by decide +kernel
theorem dL_law_210 : decode cL_law 210 = .ok (.bipush 12, 2) := by decide +kernel
theorem dL_law_212 : decode cL_law 212 = .ok (.invokestatic 119, 3) := by decide +kernel
theorem dL_law_215 : decode cL_law 215 = .ok (.iadd, 1) := by decide +kernel
theorem dL_law_216 : decode cL_law 216 = .ok (.invokestatic 116, 3) := by decide +kernel
theorem dL_law_219 : decode cL_law 219 = .ok (.ifCond .ne 17, 3) := by decide +kernel
theorem dL_law_222 : decode cL_law 222 = .ok (.aload_n 1, 1) := by decide +kernel
theorem dL_law_223 : decode cL_law 223 = .ok (.invokestatic 112, 3) := by decide +kernel
theorem dL_law_226 : decode cL_law 226 = .ok (.lload 9, 2) := by decide +kernel
theorem dL_law_228 : decode cL_law 228 = .ok (.lcmp, 1) := by decide +kernel
theorem dL_law_229 : decode cL_law 229 = .ok (.ifCond .ne 7, 3) := by decide +kernel
theorem dL_law_232 : decode cL_law 232 = .ok (.iconst 1, 1) := by decide +kernel
theorem dL_law_233 : decode cL_law 233 = .ok (.goto 4, 3) := by decide +kernel
theorem dL_law_236 : decode cL_law 236 = .ok (.iconst 0, 1) := by decide +kernel
theorem dL_law_237 : decode cL_law 237 = .ok (.istore 4, 2) := by decide +kernel
theorem dL_law_239 : decode cL_law 239 = .ok (.goto 89, 3) := by decide +kernel
theorem dL_law_242 : decode cL_law 242 = .ok (.iload 8, 2) := by decide +kernel
theorem dL_law_244 : decode cL_law 244 = .ok (.bipush 15, 2) := by decide +kernel
theorem dL_law_246 : decode cL_law 246 = .ok (.if_icmp .ge 12, 3) := by decide +kernel
theorem dL_law_249 : decode cL_law 249 = .ok (.aload_n 1, 1) := by decide +kernel
theorem dL_law_250 : decode cL_law 250 = .ok (.invokestatic 123, 3) := by decide +kernel
theorem dL_law_253 : decode cL_law 253 = .ok (.istore 4, 2) := by decide +kernel
theorem dL_law_255 : decode cL_law 255 = .ok (.goto 73, 3) := by decide +kernel
theorem dL_law_258 : decode cL_law 258 = .ok (.aload_n 1, 1) := by decide +kernel
theorem dL_law_259 : decode cL_law 259 = .ok (.invokevirtual 63, 3) := by decide +kernel
theorem dL_law_262 : decode cL_law 262 = .ok (.istore 9, 2) := by decide +kernel
theorem dL_law_264 : decode cL_law 264 = .ok (.aload_n 1, 1) := by decide +kernel
theorem dL_law_265 : decode cL_law 265 = .ok (.invokevirtual 68, 3) := by decide +kernel
theorem dL_law_268 : decode cL_law 268 = .ok (.istore 10, 2) := by decide +kernel
theorem dL_law_270 : decode cL_law 270 = .ok (.iload 7, 2) := by decide +kernel
theorem dL_law_272 : decode cL_law 272 = .ok (.iconst 3, 1) := by decide +kernel
theorem dL_law_273 : decode cL_law 273 = .ok (.invokestatic 119, 3) := by decide +kernel
theorem dL_law_276 : decode cL_law 276 = .ok (.ifCond .gt 45, 3) := by decide +kernel
theorem dL_law_279 : decode cL_law 279 = .ok (.aload_n 1, 1) := by decide +kernel
theorem dL_law_280 : decode cL_law 280 = .ok (.invokevirtual 139, 3) := by decide +kernel
theorem dL_law_283 : decode cL_law 283 = .ok (.iload 9, 2) := by decide +kernel
theorem dL_law_285 : decode cL_law 285 = .ok (.if_icmp .ne 40, 3) := by decide +kernel
theorem dL_law_288 : decode cL_law 288 = .ok (.aload_n 1, 1) := by decide +kernel
theorem dL_law_289 : decode cL_law 289 = .ok (.invokevirtual 68, 3) := by decide +kernel
theorem dL_law_292 : decode cL_law 292 = .ok (.iload 10, 2) := by decide +kernel
theorem dL_law_294 : decode cL_law 294 = .ok (.iload 9, 2) := by decide +kernel
theorem dL_law_296 : decode cL_law 296 = .ok (.iadd, 1) := by decide +kernel
theorem dL_law_297 : decode cL_law 297 = .ok (.if_icmp .ne 28, 3) := by decide +kernel
theorem dL_law_300 : decode cL_law 300 = .ok (.aload_n 1, 1) := by decide +kernel
theorem dL_law_301 : decode cL_law 301 = .ok (.invokevirtual 63, 3) := by decide +kernel
theorem dL_law_304 : decode cL_law 304 = .ok (.ifCond .ne 21, 3) := by decide +kernel
theorem dL_law_307 : decode cL_law 307 = .ok (.aload_n 1, 1) := by decide +kernel
theorem dL_law_308 : decode cL_law 308 = .ok (.invokevirtual 73, 3) := by decide +kernel
theorem dL_law_311 : decode cL_law 311 = .ok (.ifCond .ne 14, 3) := by decide +kernel
theorem dL_law_314 : decode cL_law 314 = .ok (.aload_n 1, 1) := by decide +kernel
theorem dL_law_315 : decode cL_law 315 = .ok (.invokevirtual 139, 3) := by decide +kernel
theorem dL_law_318 : decode cL_law 318 = .ok (.ifCond .ne 7, 3) := by decide +kernel
theorem dL_law_321 : decode cL_law 321 = .ok (.iconst 1, 1) := by decide +kernel
theorem dL_law_322 : decode cL_law 322 = .ok (.goto 4, 3) := by decide +kernel
theorem dL_law_325 : decode cL_law 325 = .ok (.iconst 0, 1) := by decide +kernel
theorem dL_law_326 : decode cL_law 326 = .ok (.istore 4, 2) := by decide +kernel
theorem dL_law_328 : decode cL_law 328 = .ok (.iload 4, 2) := by decide +kernel
theorem dL_law_330 : decode cL_law 330 = .ok (.ifCond .eq 19, 3) := by decide +kernel
theorem dL_law_333 : decode cL_law 333 = .ok (.aload_n 1, 1) := by decide +kernel
theorem dL_law_334 : decode cL_law 334 = .ok (.iload_n 2, 1) := by decide +kernel
theorem dL_law_335 : decode cL_law 335 = .ok (.iload 6, 2) := by decide +kernel
theorem dL_law_337 : decode cL_law 337 = .ok (.iconst 3, 1) := by decide +kernel
theorem dL_law_338 : decode cL_law 338 = .ok (.ishr, 1) := by decide +kernel
theorem dL_law_339 : decode cL_law 339 = .ok (.invokestatic 131, 3) := by decide +kernel
theorem dL_law_342 : decode cL_law 342 = .ok (.ifCond .eq 7, 3) := by decide +kernel
theorem dL_law_345 : decode cL_law 345 = .ok (.iconst 1, 1) := by decide +kernel
theorem dL_law_346 : decode cL_law 346 = .ok (.goto 4, 3) := by decide +kernel
theorem dL_law_349 : decode cL_law 349 = .ok (.iconst 0, 1) := by decide +kernel
theorem dL_law_350 : decode cL_law 350 = .ok (.istore 4, 2) := by decide +kernel
theorem dL_law_352 : decode cL_law 352 = .ok (.iinc 5 1, 3) := by decide +kernel
theorem dL_law_355 : decode cL_law 355 = .ok (.goto (-313), 3) := by decide +kernel
theorem dL_law_358 : decode cL_law 358 = .ok (.iload 4, 2) := by decide +kernel
theorem dL_law_360 : decode cL_law 360 = .ok (.ifCond .eq 14, 3) := by decide +kernel
theorem dL_law_363 : decode cL_law 363 = .ok (.aload_n 1, 1) := by decide +kernel
theorem dL_law_364 : decode cL_law 364 = .ok (.invokestatic 123, 3) := by decide +kernel
theorem dL_law_367 : decode cL_law 367 = .ok (.ifCond .eq 7, 3) := by decide +kernel
theorem dL_law_370 : decode cL_law 370 = .ok (.iconst 1, 1) := by decide +kernel
theorem dL_law_371 : decode cL_law 371 = .ok (.goto 4, 3) := by decide +kernel
theorem dL_law_374 : decode cL_law 374 = .ok (.iconst 0, 1) := by decide +kernel
theorem dL_law_375 : decode cL_law 375 = .ok (.ireturn, 1) := by decide +kernel
abbrev vwCl : List vw_C := [(RX0, TX0, 6), (RX1, TX1, 9), (RX2, TX2, 5), (RX3, TX3, 4)]
