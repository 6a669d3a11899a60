theorem dL_cell_0 : decode cL_cell 0 = .ok (.iload_n 1, 1) := by decide +kernel
theorem dL_cell_1 : decode cL_cell 1 = .ok (.aload_n 0, 1) := by decide +kernel
theorem dL_cell_2 : decode cL_cell 2 = .ok (.arraylength, 1) := by decide +kernel
theorem dL_cell_3 : decode cL_cell 3 = .ok (.if_icmp .ge 9, 3) := by decide +kernel
theorem dL_cell_6 : decode cL_cell 6 = .ok (.aload_n 0, 1) := by decide +kernel
theorem dL_cell_7 : decode cL_cell 7 = .ok (.iload_n 1, 1) := by decide +kernel
theorem dL_cell_8 : decode cL_cell 8 = .ok (.iaload, 1) := by decide +kernel
theorem dL_cell_9 : decode cL_cell 9 = .ok (.goto 11, 3) := by decide +kernel
theorem dL_cell_12 : decode cL_cell 12 = .ok (.ldc 7, 2) := by decide +kernel
theorem dL_cell_14 : decode cL_cell 14 = .ok (.iload_n 1, 1) := by decide +kernel
theorem dL_cell_15 : decode cL_cell 15 = .ok (.imul, 1) := by decide +kernel
theorem dL_cell_16 : decode cL_cell 16 = .ok (.sipush 151, 3) := by decide +kernel
theorem dL_cell_19 : decode cL_cell 19 = .ok (.iadd, 1) := by decide +kernel
theorem dL_cell_20 : decode cL_cell 20 = .ok (.ireturn, 1) := by decide +kernel
theorem dL_low_0 : decode cL_low 0 = .ok (.iload_n 0, 1) := by decide +kernel
theorem dL_low_1 : decode cL_low 1 = .ok (.ldc 8, 2) := by decide +kernel
theorem dL_low_3 : decode cL_low 3 = .ok (.iand, 1) := by decide +kernel
theorem dL_low_4 : decode cL_low 4 = .ok (.iload_n 1, 1) := by decide +kernel
theorem dL_low_5 : decode cL_low 5 = .ok (.irem, 1) := by decide +kernel
theorem dL_low_6 : decode cL_low 6 = .ok (.ireturn, 1) := by decide +kernel
set_option maxRecDepth 20000 in
theorem ggL_ask_X6_addRoute : GoodIn wsL_ask wsX6_addRoute := goodIn_ca (goodIn_ca (goodIn_r _ [10, 11, 12, 13, 14, 15, 16, 17, 18, 19, 20, 21, 9, 22, 23, 24, 25, 26, 27, 28, 29, 30, 31, 32, 33, 34, 35, 36, 37, 38, 39, 40, 41, 42, 43, 44, 45, 286, 287, 288, 289, 290, 291, 292, 293, 294, 295, 296, 297, 298, 299, 300] (by decide +kernel) (by decide +kernel)) (goodIn_sub (fun _ h => List.mem_cons_of_mem _ (List.mem_append_left _ (List.mem_append_left _ (List.mem_append_left _ (List.mem_append_right _ h))))) (by decide +kernel))) (goodIn_sub (fun _ h => List.mem_cons_of_mem _ (List.mem_append_left _ (List.mem_append_left _ (List.mem_append_right _ h)))) (by decide +kernel))
set_option maxRecDepth 20000 in
theorem gL_ask_X6_addRoute : GoodIn wsL_ask (wsV RL 9 RX6 yX6_addRoute wsX6_addRoute) := goodIn_app (goodIn_of _ (by decide +kernel)) ggL_ask_X6_addRoute
set_option maxRecDepth 20000 in
theorem ggL_ask_X6_route : GoodIn wsL_ask wsX6_route := goodIn_ca (goodIn_ca (goodIn_r _ [49, 50, 51, 9, 52, 11, 12, 20, 21, 22, 23, 24, 25, 53, 54, 55, 56, 32, 33, 34, 35, 16, 57, 58, 59, 60, 61, 286, 287, 288, 289, 290, 291, 292, 293, 294, 295, 296, 297, 298, 299, 300] (by decide +kernel) (by decide +kernel)) (goodIn_sub (fun _ h => List.mem_cons_of_mem _ (List.mem_append_left _ (List.mem_append_left _ (List.mem_append_left _ (List.mem_append_right _ h))))) (by decide +kernel))) (goodIn_sub (fun _ h => List.mem_cons_of_mem _ (List.mem_append_left _ (List.mem_append_right _ h))) (by decide +kernel))
set_option maxRecDepth 20000 in
theorem gL_ask_X6_route : GoodIn wsL_ask (wsV RL 15 RX6 yX6_route wsX6_route) := goodIn_app (goodIn_of _ (by decide +kernel)) ggL_ask_X6_route
set_option maxRecDepth 20000 in
theorem ggL_ask_X6_routeByComparing : GoodIn wsL_ask wsX6_routeByComparing := goodIn_ca (goodIn_ca (goodIn_r _ [65, 50, 51, 9, 52, 11, 12, 20, 21, 22, 23, 24, 25, 66, 67, 68, 69, 16, 70, 19, 71, 72, 42, 57, 58, 59, 60, 61, 286, 287, 288, 289, 290, 291, 292, 293, 294, 295, 296, 297, 298, 299, 300] (by decide +kernel) (by decide +kernel)) (goodIn_sub (fun _ h => List.mem_cons_of_mem _ (List.mem_append_left _ (List.mem_append_left _ (List.mem_append_left _ (List.mem_append_right _ h))))) (by decide +kernel))) (goodIn_sub (fun _ h => List.mem_cons_of_mem _ (List.mem_append_left _ (List.mem_append_right _ h))) (by decide +kernel))
set_option maxRecDepth 20000 in
theorem gL_ask_X6_routeByComparing : GoodIn wsL_ask (wsV RL 19 RX6 yX6_routeByComparing wsX6_routeByComparing) := goodIn_app (goodIn_of _ (by decide +kernel)) ggL_ask_X6_routeByComparing
set_option maxRecDepth 20000 in
theorem ggL_ask_X6_setContract : GoodIn wsL_ask wsX6_setContract := goodIn_ca (goodIn_ca (goodIn_r _ [76, 11, 12, 77, 78, 79, 9, 80, 81, 82, 16, 26, 27, 28, 29, 30, 31, 23, 24, 25, 294, 295, 296, 297, 298, 299, 300, 286, 287, 288, 289, 290, 291, 292, 293] (by decide +kernel) (by decide +kernel)) (goodIn_sub (fun _ h => List.mem_cons_of_mem _ (List.mem_append_left _ (List.mem_append_left _ (List.mem_append_left _ (List.mem_append_right _ h))))) (by decide +kernel))) (goodIn_sub (fun _ h => List.mem_cons_of_mem _ (List.mem_append_right _ h)) (by decide +kernel))
set_option maxRecDepth 20000 in
theorem gL_ask_X6_setContract : GoodIn wsL_ask (wsV RL 22 RX6 yX6_setContract wsX6_setContract) := goodIn_app (goodIn_of _ (by decide +kernel)) ggL_ask_X6_setContract
set_option maxRecDepth 20000 in
theorem ggL_ask_X6_setAnswer : GoodIn wsL_ask wsX6_setAnswer := goodIn_ca (goodIn_ca (goodIn_r _ [86, 11, 12, 77, 78, 79, 9, 80, 81, 82, 16, 29, 30, 31, 23, 24, 25, 294, 295, 296, 297, 298, 299, 300, 286, 287, 288, 289, 290, 291, 292, 293] (by decide +kernel) (by decide +kernel)) (goodIn_sub (fun _ h => List.mem_cons_of_mem _ (List.mem_append_left _ (List.mem_append_left _ (List.mem_append_left _ (List.mem_append_right _ h))))) (by decide +kernel))) (goodIn_sub (fun _ h => List.mem_cons_of_mem _ (List.mem_append_right _ h)) (by decide +kernel))
set_option maxRecDepth 20000 in
theorem gL_ask_X6_setAnswer : GoodIn wsL_ask (wsV RL 26 RX6 yX6_setAnswer wsX6_setAnswer) := goodIn_app (goodIn_of _ (by decide +kernel)) ggL_ask_X6_setAnswer
set_option maxRecDepth 20000 in
theorem ggL_ask_X6_broken : GoodIn wsL_ask wsX6_broken := goodIn_ca (goodIn_r _ [90, 77, 78, 79, 9, 80, 81, 82, 16, 91, 19, 92, 93, 44, 45, 294, 295, 296, 297, 298, 299, 300, 301, 302, 303, 304, 305, 286, 287, 288, 289, 290, 291, 292, 293] (by decide +kernel) (by decide +kernel)) (goodIn_sub (fun _ h => List.mem_cons_of_mem _ (List.mem_append_right _ h)) (by decide +kernel))
set_option maxRecDepth 20000 in
theorem gL_ask_X6_broken : GoodIn wsL_ask (wsV RL 30 RX6 yX6_broken wsX6_broken) := goodIn_app (goodIn_of _ (by decide +kernel)) ggL_ask_X6_broken
set_option maxRecDepth 20000 in
theorem ggL_ask_X6_begin : GoodIn wsL_ask wsX6_begin := goodIn_ca (goodIn_ca (goodIn_ca (goodIn_r _ [97, 11, 12, 13, 14, 98, 99, 100, 101, 77, 78, 79, 9, 80, 81, 82, 16, 29, 30, 31, 23, 24, 25, 102, 103, 104, 105, 106, 107, 39, 40, 108, 109, 110, 111, 112, 113, 114, 115, 294, 295, 296, 297, 298, 299, 300, 301, 302, 303, 304, 305, 286, 287, 288, 289, 290, 291, 292, 293] (by decide +kernel) (by decide +kernel)) (goodIn_sub (fun _ h => List.mem_cons_of_mem _ (List.mem_append_left _ (List.mem_append_left _ (List.mem_append_left _ (List.mem_append_right _ h))))) (by decide +kernel))) (goodIn_sub (fun _ h => List.mem_cons_of_mem _ (List.mem_append_left _ (List.mem_append_left _ (List.mem_append_right _ h)))) (by decide +kernel))) (goodIn_sub (fun _ h => List.mem_cons_of_mem _ (List.mem_append_right _ h)) (by decide +kernel))
set_option maxRecDepth 20000 in
theorem gL_ask_X6_begin : GoodIn wsL_ask (wsV RL 34 RX6 yX6_begin wsX6_begin) := goodIn_app (goodIn_of _ (by decide +kernel)) ggL_ask_X6_begin
set_option maxRecDepth 20000 in
theorem ggL_ask_X6_setShare : GoodIn wsL_ask wsX6_setShare := goodIn_ca (goodIn_ca (goodIn_ca (goodIn_r _ [119, 11, 12, 77, 78, 79, 9, 80, 81, 82, 16, 102, 103, 104, 23, 24, 25, 120, 121, 122, 13, 14, 301, 302, 303, 304, 305, 286, 287, 288, 289, 290, 291, 292, 293, 294, 295, 296, 297, 298, 299, 300] (by decide +kernel) (by decide +kernel)) (goodIn_sub (fun _ h => List.mem_cons_of_mem _ (List.mem_append_left _ (List.mem_append_left _ (List.mem_append_left _ (List.mem_append_right _ h))))) (by decide +kernel))) (goodIn_sub (fun _ h => List.mem_cons_of_mem _ (List.mem_append_right _ h)) (by decide +kernel))) (goodIn_sub (fun _ h => List.mem_cons_of_mem _ (List.mem_append_left _ (List.mem_append_left _ (List.mem_append_right _ h)))) (by decide +kernel))
set_option maxRecDepth 20000 in
theorem gL_ask_X6_setShare : GoodIn wsL_ask (wsV RL 37 RX6 yX6_setShare wsX6_setShare) := goodIn_app (goodIn_of _ (by decide +kernel)) ggL_ask_X6_setShare
set_option maxRecDepth 20000 in
theorem ggL_ask_X6_promote : GoodIn wsL_ask wsX6_promote := goodIn_ca (goodIn_ca (goodIn_r _ [126, 77, 78, 79, 9, 80, 81, 82, 16, 120, 121, 122, 13, 14, 301, 302, 303, 304, 305, 294, 295, 296, 297, 298, 299, 300, 286, 287, 288, 289, 290, 291, 292, 293] (by decide +kernel) (by decide +kernel)) (goodIn_sub (fun _ h => List.mem_cons_of_mem _ (List.mem_append_right _ h)) (by decide +kernel))) (goodIn_sub (fun _ h => List.mem_cons_of_mem _ (List.mem_append_left _ (List.mem_append_left _ (List.mem_append_right _ h)))) (by decide +kernel))
set_option maxRecDepth 20000 in
theorem gL_ask_X6_promote : GoodIn wsL_ask (wsV RL 40 RX6 yX6_promote wsX6_promote) := goodIn_app (goodIn_of _ (by decide +kernel)) ggL_ask_X6_promote
set_option maxRecDepth 20000 in
theorem ggL_ask_X6_takeBack : GoodIn wsL_ask wsX6_takeBack := goodIn_ca (goodIn_ca (goodIn_r _ [130, 77, 78, 79, 9, 80, 81, 82, 16, 120, 121, 122, 13, 14, 131, 132, 133, 134, 135, 136, 137, 138, 139, 140, 141, 142, 143, 144, 145, 146, 147, 148, 149, 150, 151, 152, 153, 154, 155, 156, 157, 158, 159, 160, 161, 162, 163, 286, 287, 288, 289, 290, 291, 292, 293, 294, 295, 296, 297, 298, 299, 300, 301, 302, 303, 304, 305, 306, 307, 308, 309, 310, 311, 312, 313, 314, 315, 316, 317, 318, 319, 320] (by decide +kernel) (by decide +kernel)) (goodIn_sub (fun _ h => List.mem_cons_of_mem _ (List.mem_append_right _ h)) (by decide +kernel))) (goodIn_sub (fun _ h => List.mem_cons_of_mem _ (List.mem_append_left _ (List.mem_append_left _ (List.mem_append_right _ h)))) (by decide +kernel))
set_option maxRecDepth 20000 in
theorem gL_ask_X6_takeBack : GoodIn wsL_ask (wsV RL 43 RX6 yX6_takeBack wsX6_takeBack) := goodIn_app (goodIn_of _ (by decide +kernel)) ggL_ask_X6_takeBack
set_option maxRecDepth 20000 in
theorem ggL_ask_X6_hasCanary : GoodIn wsL_ask wsX6_hasCanary := goodIn_ca (goodIn_r _ [167, 77, 78, 79, 9, 80, 81, 82, 16, 294, 295, 296, 297, 298, 299, 300, 286, 287, 288, 289, 290, 291, 292, 293] (by decide +kernel) (by decide +kernel)) (goodIn_sub (fun _ h => List.mem_cons_of_mem _ (List.mem_append_right _ h)) (by decide +kernel))
set_option maxRecDepth 20000 in
theorem gL_ask_X6_hasCanary : GoodIn wsL_ask (wsV RL 46 RX6 yX6_hasCanary wsX6_hasCanary) := goodIn_app (goodIn_of _ (by decide +kernel)) ggL_ask_X6_hasCanary
set_option maxRecDepth 20000 in
theorem ggL_ask_X6_faults : GoodIn wsL_ask wsX6_faults := goodIn_ca (goodIn_ca (goodIn_r _ [171, 60, 61, 77, 78, 79, 9, 80, 81, 82, 16, 294, 295, 296, 297, 298, 299, 300, 301, 302, 303, 304, 305, 286, 287, 288, 289, 290, 291, 292, 293] (by decide +kernel) (by decide +kernel)) (goodIn_sub (fun _ h => List.mem_cons_of_mem _ (List.mem_append_left _ (List.mem_append_right _ h))) (by decide +kernel))) (goodIn_sub (fun _ h => List.mem_cons_of_mem _ (List.mem_append_right _ h)) (by decide +kernel))
set_option maxRecDepth 20000 in
theorem gL_ask_X6_faults : GoodIn wsL_ask (wsV RL 50 RX6 yX6_faults wsX6_faults) := goodIn_app (goodIn_of _ (by decide +kernel)) ggL_ask_X6_faults
set_option maxRecDepth 20000 in
theorem ggL_ask_X6_addPlan : GoodIn wsL_ask wsX6_addPlan := goodIn_ca (goodIn_ca (goodIn_r _ [175, 11, 12, 13, 14, 176, 177, 178, 179, 180, 23, 24, 9, 25, 181, 182, 183, 39, 40, 184, 185, 186, 286, 287, 288, 289, 290, 291, 292, 293, 318, 319, 320] (by decide +kernel) (by decide +kernel)) (goodIn_sub (fun _ h => List.mem_cons_of_mem _ (List.mem_append_left _ (List.mem_append_left _ (List.mem_append_left _ (List.mem_append_right _ h))))) (by decide +kernel))) (goodIn_sub (fun _ h => List.mem_cons_of_mem _ (List.mem_append_left _ (List.mem_append_left _ (List.mem_append_right _ h)))) (by decide +kernel))
set_option maxRecDepth 20000 in
theorem gL_ask_X6_addPlan : GoodIn wsL_ask (wsV RL 53 RX6 yX6_addPlan wsX6_addPlan) := goodIn_app (goodIn_of _ (by decide +kernel)) ggL_ask_X6_addPlan
set_option maxRecDepth 20000 in
theorem ggL_ask_X6_addCaller : GoodIn wsL_ask wsX6_addCaller := goodIn_ca (goodIn_ca (goodIn_r _ [190, 13, 14, 191, 192, 193, 194, 155, 195, 196, 197, 9, 198, 81, 82, 177, 199, 200, 201, 39, 40, 202, 158, 159, 286, 287, 288, 289, 290, 291, 292, 293, 314, 315, 316, 317, 318, 319, 320] (by decide +kernel) (by decide +kernel)) (goodIn_sub (fun _ h => List.mem_cons_of_mem _ (List.mem_append_left _ (List.mem_append_left _ (List.mem_append_right _ h)))) (by decide +kernel))) (goodIn_sub (fun _ h => List.mem_cons_of_mem _ (List.mem_append_right _ h)) (by decide +kernel))
set_option maxRecDepth 20000 in
theorem gL_ask_X6_addCaller : GoodIn wsL_ask (wsV RL 56 RX6 yX6_addCaller wsX6_addCaller) := goodIn_app (goodIn_of _ (by decide +kernel)) ggL_ask_X6_addCaller
set_option maxRecDepth 20000 in
theorem ggL_ask_X6_setPlan : GoodIn wsL_ask wsX6_setPlan := goodIn_ca (goodIn_r _ [206, 207, 208, 209, 9, 210, 81, 82, 192, 195, 196, 197, 198, 177, 211, 155, 212, 213, 159, 214, 215, 162, 216, 158, 286, 287, 288, 289, 290, 291, 292, 293, 314, 315, 316, 317, 318, 319, 320] (by decide +kernel) (by decide +kernel)) (goodIn_sub (fun _ h => List.mem_cons_of_mem _ (List.mem_append_right _ h)) (by decide +kernel))
set_option maxRecDepth 20000 in
theorem gL_ask_X6_setPlan : GoodIn wsL_ask (wsV RL 59 RX6 yX6_setPlan wsX6_setPlan) := goodIn_app (goodIn_of _ (by decide +kernel)) ggL_ask_X6_setPlan
set_option maxRecDepth 20000 in
theorem ggL_ask_X6_tokens : GoodIn wsL_ask wsX6_tokens := goodIn_ca (goodIn_r _ [220, 207, 208, 209, 9, 210, 81, 82, 192, 314, 315, 316, 317, 286, 287, 288, 289, 290, 291, 292, 293] (by decide +kernel) (by decide +kernel)) (goodIn_sub (fun _ h => List.mem_cons_of_mem _ (List.mem_append_right _ h)) (by decide +kernel))
set_option maxRecDepth 20000 in
theorem gL_ask_X6_tokens : GoodIn wsL_ask (wsV RL 62 RX6 yX6_tokens wsX6_tokens) := goodIn_app (goodIn_of _ (by decide +kernel)) ggL_ask_X6_tokens
set_option maxRecDepth 20000 in
theorem ggL_ask_X6_ticksUntil : GoodIn wsL_ask wsX6_ticksUntil := goodIn_ca (goodIn_ca (goodIn_r _ [224, 60, 61, 207, 208, 209, 9, 210, 81, 82, 192, 77, 78, 79, 80, 16, 225, 155, 226, 227, 159, 158, 294, 295, 296, 297, 298, 299, 300, 314, 315, 316, 317, 318, 319, 320, 286, 287, 288, 289, 290, 291, 292, 293] (by decide +kernel) (by decide +kernel)) (goodIn_sub (fun _ h => List.mem_cons_of_mem _ (List.mem_append_left _ (List.mem_append_right _ h))) (by decide +kernel))) (goodIn_sub (fun _ h => List.mem_cons_of_mem _ (List.mem_append_right _ h)) (by decide +kernel))
set_option maxRecDepth 20000 in
theorem gL_ask_X6_ticksUntil : GoodIn wsL_ask (wsV RL 65 RX6 yX6_ticksUntil wsX6_ticksUntil) := goodIn_app (goodIn_of _ (by decide +kernel)) ggL_ask_X6_ticksUntil
set_option maxRecDepth 20000 in
theorem ggL_ask_X6_bill : GoodIn wsL_ask wsX6_bill := goodIn_ca (goodIn_r _ [231, 207, 208, 209, 9, 210, 81, 82, 192, 314, 315, 316, 317, 286, 287, 288, 289, 290, 291, 292, 293] (by decide +kernel) (by decide +kernel)) (goodIn_sub (fun _ h => List.mem_cons_of_mem _ (List.mem_append_right _ h)) (by decide +kernel))
set_option maxRecDepth 20000 in
theorem gL_ask_X6_bill : GoodIn wsL_ask (wsV RL 68 RX6 yX6_bill wsX6_bill) := goodIn_app (goodIn_of _ (by decide +kernel)) ggL_ask_X6_bill
set_option maxRecDepth 20000 in
theorem ggL_ask_X6_billByLog : GoodIn wsL_ask wsX6_billByLog := goodIn_ca (goodIn_r _ [235, 135, 207, 208, 209, 9, 210, 81, 82, 192, 236, 137, 237, 238, 140, 141, 142, 143, 144, 145, 286, 287, 288, 289, 290, 291, 292, 293, 314, 315, 316, 317, 306, 307, 308, 309, 310, 311, 312, 313] (by decide +kernel) (by decide +kernel)) (goodIn_sub (fun _ h => List.mem_cons_of_mem _ (List.mem_append_right _ h)) (by decide +kernel))
set_option maxRecDepth 20000 in
theorem gL_ask_X6_billByLog : GoodIn wsL_ask (wsV RL 72 RX6 yX6_billByLog wsX6_billByLog) := goodIn_app (goodIn_of _ (by decide +kernel)) ggL_ask_X6_billByLog
set_option maxRecDepth 20000 in
theorem ggL_ask_X6_call : GoodIn wsL_ask wsX6_call := goodIn_ca (goodIn_ca (goodIn_r _ [242, 11, 12, 135, 207, 208, 209, 9, 210, 81, 82, 192, 20, 21, 22, 23, 24, 25, 243, 137, 244, 245, 140, 145, 53, 54, 55, 56, 32, 33, 34, 35, 16, 246, 247, 248, 249, 250, 251, 252, 253, 254, 255, 147, 256, 257, 258, 39, 40, 151, 259, 152, 153, 260, 261, 262, 263, 91, 19, 92, 93, 44, 45, 131, 132, 133, 134, 136, 138, 139, 141, 142, 143, 144, 146, 148, 149, 150, 154, 155, 156, 157, 158, 159, 160, 161, 162, 163, 286, 287, 288, 289, 290, 291, 292, 293, 306, 307, 294, 295, 296, 297, 298, 299, 300, 314, 315, 316, 317, 301, 302, 303, 304, 305, 318, 319, 320, 308, 309, 310, 311, 312, 313] (by decide +kernel) (by decide +kernel)) (goodIn_sub (fun _ h => List.mem_cons_of_mem _ (List.mem_append_left _ (List.mem_append_left _ (List.mem_append_left _ (List.mem_append_right _ h))))) (by decide +kernel))) (goodIn_sub (fun _ h => List.mem_cons_of_mem _ (List.mem_append_right _ h)) (by decide +kernel))
set_option maxRecDepth 20000 in
theorem gL_ask_X6_call : GoodIn wsL_ask (wsV RL 75 RX6 yX6_call wsX6_call) := goodIn_app (goodIn_of _ (by decide +kernel)) ggL_ask_X6_call
set_option maxRecDepth 20000 in
theorem ggL_ask_X6_pass : GoodIn wsL_ask wsX6_pass := goodIn_ca (goodIn_r _ [267, 11, 12, 192, 23, 24, 9, 25, 154, 155, 156, 157, 158, 159, 160, 161, 162, 163, 286, 287, 288, 289, 290, 291, 292, 293, 314, 315, 316, 317, 318, 319, 320] (by decide +kernel) (by decide +kernel)) (goodIn_sub (fun _ h => List.mem_cons_of_mem _ (List.mem_append_left _ (List.mem_append_left _ (List.mem_append_left _ (List.mem_append_right _ h))))) (by decide +kernel))
set_option maxRecDepth 20000 in
theorem gL_ask_X6_pass : GoodIn wsL_ask (wsV RL 79 RX6 yX6_pass wsX6_pass) := goodIn_app (goodIn_of _ (by decide +kernel)) ggL_ask_X6_pass
set_option maxRecDepth 20000 in
theorem ggL_ask_X6_count : GoodIn wsL_ask wsX6_count := goodIn_ca (goodIn_ca (goodIn_r _ [271, 11, 12, 135, 207, 208, 209, 9, 210, 81, 82, 192, 272, 273, 274, 275, 137, 276, 277, 140, 141, 142, 143, 144, 145, 286, 287, 288, 289, 290, 291, 292, 293, 314, 315, 316, 317, 306, 307, 308, 309, 310, 311, 312, 313] (by decide +kernel) (by decide +kernel)) (goodIn_sub (fun _ h => List.mem_cons_of_mem _ (List.mem_append_left _ (List.mem_append_left _ (List.mem_append_left _ (List.mem_append_right _ h))))) (by decide +kernel))) (goodIn_sub (fun _ h => List.mem_cons_of_mem _ (List.mem_append_right _ h)) (by decide +kernel))
set_option maxRecDepth 20000 in
theorem gL_ask_X6_count : GoodIn wsL_ask (wsV RL 82 RX6 yX6_count wsX6_count) := goodIn_app (goodIn_of _ (by decide +kernel)) ggL_ask_X6_count
set_option maxRecDepth 20000 in
theorem ggL_ask_X6_isUndone : GoodIn wsL_ask wsX6_isUndone := goodIn_ca (goodIn_r _ [281, 81, 82, 135, 142, 137, 143, 144, 145, 286, 287, 288, 289, 290, 291, 292, 293, 308, 309, 310, 311, 312, 313, 306, 307] (by decide +kernel) (by decide +kernel)) (goodIn_sub (fun _ h => List.mem_cons_of_mem _ (List.mem_append_right _ h)) (by decide +kernel))
set_option maxRecDepth 20000 in
theorem gL_ask_X6_isUndone : GoodIn wsL_ask (wsV RL 86 RX6 yX6_isUndone wsX6_isUndone) := goodIn_app (goodIn_of _ (by decide +kernel)) ggL_ask_X6_isUndone
set_option maxRecDepth 20000 in
theorem ggL_ask_X6_greatest : GoodIn wsL_ask wsX6_greatest := goodIn_ca (goodIn_r _ [285, 60, 61, 192, 286, 287, 288, 289, 290, 291, 292, 293, 314, 315, 316, 317] (by decide +kernel) (by decide +kernel)) (goodIn_sub (fun _ h => List.mem_cons_of_mem _ (List.mem_append_left _ (List.mem_append_right _ h))) (by decide +kernel))
set_option maxRecDepth 20000 in
theorem gL_ask_X6_greatest : GoodIn wsL_ask (wsV RL 89 RX6 yX6_greatest wsX6_greatest) := goodIn_app (goodIn_of _ (by decide +kernel)) ggL_ask_X6_greatest
theorem dL_ask_0 : decode cL_ask 0 = .ok (.iload_n 1, 1) := by decide +kernel
theorem dL_ask_1 : decode cL_ask 1 = .ok (.tableswitch 288 0 22 #[107, 118, 124, 130, 139, 146, 152, 163, 170, 176, 182, 196, 202, 211, 217, 224, 230, 237, 244, 251, 260, 266, 274], 107) := by decide +kernel
theorem dL_ask_108 : decode cL_ask 108 = .ok (.aload_n 0, 1) := by decide +kernel
theorem dL_ask_109 : decode cL_ask 109 = .ok (.iload_n 2, 1) := by decide +kernel
theorem dL_ask_110 : decode cL_ask 110 = .ok (.iload_n 3, 1) := by decide +kernel
theorem dL_ask_111 : decode cL_ask 111 = .ok (.iload 4, 2) := by decide +kernel
theorem dL_ask_113 : decode cL_ask 113 = .ok (.iload 5, 2) := by decide +kernel
theorem dL_ask_115 : decode cL_ask 115 = .ok (.invokevirtual 9, 3) := by decide +kernel
theorem dL_ask_118 : decode cL_ask 118 = .ok (.ireturn, 1) := by decide +kernel
theorem dL_ask_119 : decode cL_ask 119 = .ok (.aload_n 0, 1) := by decide +kernel
theorem dL_ask_120 : decode cL_ask 120 = .ok (.iload_n 2, 1) := by decide +kernel
theorem dL_ask_121 : decode cL_ask 121 = .ok (.invokevirtual 15, 3) := by decide +kernel
theorem dL_ask_124 : decode cL_ask 124 = .ok (.ireturn, 1) := by decide +kernel
theorem dL_ask_125 : decode cL_ask 125 = .ok (.aload_n 0, 1) := by decide +kernel
theorem dL_ask_126 : decode cL_ask 126 = .ok (.iload_n 2, 1) := by decide +kernel
theorem dL_ask_127 : decode cL_ask 127 = .ok (.invokevirtual 19, 3) := by decide +kernel
theorem dL_ask_130 : decode cL_ask 130 = .ok (.ireturn, 1) := by decide +kernel
theorem dL_ask_131 : decode cL_ask 131 = .ok (.aload_n 0, 1) := by decide +kernel
theorem dL_ask_132 : decode cL_ask 132 = .ok (.iload_n 2, 1) := by decide +kernel
theorem dL_ask_133 : decode cL_ask 133 = .ok (.iload_n 3, 1) := by decide +kernel
theorem dL_ask_134 : decode cL_ask 134 = .ok (.iload 4, 2) := by decide +kernel
theorem dL_ask_136 : decode cL_ask 136 = .ok (.invokevirtual 22, 3) := by decide +kernel
theorem dL_ask_139 : decode cL_ask 139 = .ok (.ireturn, 1) := by decide +kernel
theorem dL_ask_140 : decode cL_ask 140 = .ok (.aload_n 0, 1) := by decide +kernel
theorem dL_ask_141 : decode cL_ask 141 = .ok (.iload_n 2, 1) := by decide +kernel
theorem dL_ask_142 : decode cL_ask 142 = .ok (.iload_n 3, 1) := by decide +kernel
theorem dL_ask_143 : decode cL_ask 143 = .ok (.invokevirtual 26, 3) := by decide +kernel
theorem dL_ask_146 : decode cL_ask 146 = .ok (.ireturn, 1) := by decide +kernel
theorem dL_ask_147 : decode cL_ask 147 = .ok (.aload_n 0, 1) := by decide +kernel
theorem dL_ask_148 : decode cL_ask 148 = .ok (.iload_n 2, 1) := by decide +kernel
theorem dL_ask_149 : decode cL_ask 149 = .ok (.invokevirtual 30, 3) := by decide +kernel
theorem dL_ask_152 : decode cL_ask 152 = .ok (.ireturn, 1) := by decide +kernel
theorem dL_ask_153 : decode cL_ask 153 = .ok (.aload_n 0, 1) := by decide +kernel
theorem dL_ask_154 : decode cL_ask 154 = .ok (.iload_n 2, 1) := by decide +kernel
theorem dL_ask_155 : decode cL_ask 155 = .ok (.iload_n 3, 1) := by decide +kernel
theorem dL_ask_156 : decode cL_ask 156 = .ok (.iload 4, 2) := by decide +kernel
theorem dL_ask_158 : decode cL_ask 158 = .ok (.iload 5, 2) := by decide +kernel
theorem dL_ask_160 : decode cL_ask 160 = .ok (.invokevirtual 34, 3) := by decide +kernel
theorem dL_ask_163 : decode cL_ask 163 = .ok (.ireturn, 1) := by decide +kernel
theorem dL_ask_164 : decode cL_ask 164 = .ok (.aload_n 0, 1) := by decide +kernel
theorem dL_ask_165 : decode cL_ask 165 = .ok (.iload_n 2, 1) := by decide +kernel
theorem dL_ask_166 : decode cL_ask 166 = .ok (.iload_n 3, 1) := by decide +kernel
theorem dL_ask_167 : decode cL_ask 167 = .ok (.invokevirtual 37, 3) := by decide +kernel
theorem dL_ask_170 : decode cL_ask 170 = .ok (.ireturn, 1) := by decide +kernel
theorem dL_ask_171 : decode cL_ask 171 = .ok (.aload_n 0, 1) := by decide +kernel
theorem dL_ask_172 : decode cL_ask 172 = .ok (.iload_n 2, 1) := by decide +kernel
theorem dL_ask_173 : decode cL_ask 173 = .ok (.invokevirtual 40, 3) := by decide +kernel
theorem dL_ask_176 : decode cL_ask 176 = .ok (.ireturn, 1) := by decide +kernel
theorem dL_ask_177 : decode cL_ask 177 = .ok (.aload_n 0, 1) := by decide +kernel
theorem dL_ask_178 : decode cL_ask 178 = .ok (.iload_n 2, 1) := by decide +kernel
theorem dL_ask_179 : decode cL_ask 179 = .ok (.invokevirtual 43, 3) := by decide +kernel
theorem dL_ask_182 : decode cL_ask 182 = .ok (.ireturn, 1) := by decide +kernel
theorem dL_ask_183 : decode cL_ask 183 = .ok (.aload_n 0, 1) := by decide +kernel
theorem dL_ask_184 : decode cL_ask 184 = .ok (.iload_n 2, 1) := by decide +kernel
theorem dL_ask_185 : decode cL_ask 185 = .ok (.invokevirtual 46, 3) := by decide +kernel
theorem dL_ask_188 : decode cL_ask 188 = .ok (.ifCond .eq 7, 3) := by decide +kernel
theorem dL_ask_191 : decode cL_ask 191 = .ok (.iconst 1, 1) := by decide +kernel
theorem dL_ask_192 : decode cL_ask 192 = .ok (.goto 4, 3) := by decide +kernel
theorem dL_ask_195 : decode cL_ask 195 = .ok (.iconst 0, 1) := by decide +kernel
theorem dL_ask_196 : decode cL_ask 196 = .ok (.ireturn, 1) := by decide +kernel
theorem dL_ask_197 : decode cL_ask 197 = .ok (.aload_n 0, 1) := by decide +kernel
theorem dL_ask_198 : decode cL_ask 198 = .ok (.iload_n 2, 1) := by decide +kernel
theorem dL_ask_199 : decode cL_ask 199 = .ok (.invokevirtual 50, 3) := by decide +kernel
theorem dL_ask_202 : decode cL_ask 202 = .ok (.ireturn, 1) := by decide +kernel
theorem dL_ask_203 : decode cL_ask 203 = .ok (.aload_n 0, 1) := by decide +kernel
theorem dL_ask_204 : decode cL_ask 204 = .ok (.iload_n 2, 1) := by decide +kernel
theorem dL_ask_205 : decode cL_ask 205 = .ok (.iload_n 3, 1) := by decide +kernel
theorem dL_ask_206 : decode cL_ask 206 = .ok (.iload 4, 2) := by decide +kernel
theorem dL_ask_208 : decode cL_ask 208 = .ok (.invokevirtual 53, 3) := by decide +kernel
theorem dL_ask_211 : decode cL_ask 211 = .ok (.ireturn, 1) := by decide +kernel
theorem dL_ask_212 : decode cL_ask 212 = .ok (.aload_n 0, 1) := by decide +kernel
theorem dL_ask_213 : decode cL_ask 213 = .ok (.iload_n 2, 1) := by decide +kernel
theorem dL_ask_214 : decode cL_ask 214 = .ok (.invokevirtual 56, 3) := by decide +kernel
theorem dL_ask_217 : decode cL_ask 217 = .ok (.ireturn, 1) := by decide +kernel
theorem dL_ask_218 : decode cL_ask 218 = .ok (.aload_n 0, 1) := by decide +kernel
theorem dL_ask_219 : decode cL_ask 219 = .ok (.iload_n 2, 1) := by decide +kernel
theorem dL_ask_220 : decode cL_ask 220 = .ok (.iload_n 3, 1) := by decide +kernel
theorem dL_ask_221 : decode cL_ask 221 = .ok (.invokevirtual 59, 3) := by decide +kernel
theorem dL_ask_224 : decode cL_ask 224 = .ok (.ireturn, 1) := by decide +kernel
theorem dL_ask_225 : decode cL_ask 225 = .ok (.aload_n 0, 1) := by decide +kernel
theorem dL_ask_226 : decode cL_ask 226 = .ok (.iload_n 2, 1) := by decide +kernel
theorem dL_ask_227 : decode cL_ask 227 = .ok (.invokevirtual 62, 3) := by decide +kernel
theorem dL_ask_230 : decode cL_ask 230 = .ok (.ireturn, 1) := by decide +kernel
theorem dL_ask_231 : decode cL_ask 231 = .ok (.aload_n 0, 1) := by decide +kernel
theorem dL_ask_232 : decode cL_ask 232 = .ok (.iload_n 2, 1) := by decide +kernel
theorem dL_ask_233 : decode cL_ask 233 = .ok (.iload_n 3, 1) := by decide +kernel
theorem dL_ask_234 : decode cL_ask 234 = .ok (.invokevirtual 65, 3) := by decide +kernel
theorem dL_ask_237 : decode cL_ask 237 = .ok (.ireturn, 1) := by decide +kernel
theorem dL_ask_238 : decode cL_ask 238 = .ok (.aload_n 0, 1) := by decide +kernel
theorem dL_ask_239 : decode cL_ask 239 = .ok (.iload_n 2, 1) := by decide +kernel
theorem dL_ask_240 : decode cL_ask 240 = .ok (.invokevirtual 68, 3) := by decide +kernel
theorem dL_ask_243 : decode cL_ask 243 = .ok (.l2i, 1) := by decide +kernel
theorem dL_ask_244 : decode cL_ask 244 = .ok (.ireturn, 1) := by decide +kernel
theorem dL_ask_245 : decode cL_ask 245 = .ok (.aload_n 0, 1) := by decide +kernel
theorem dL_ask_246 : decode cL_ask 246 = .ok (.iload_n 2, 1) := by decide +kernel
theorem dL_ask_247 : decode cL_ask 247 = .ok (.invokevirtual 72, 3) := by decide +kernel
theorem dL_ask_250 : decode cL_ask 250 = .ok (.l2i, 1) := by decide +kernel
theorem dL_ask_251 : decode cL_ask 251 = .ok (.ireturn, 1) := by decide +kernel
theorem dL_ask_252 : decode cL_ask 252 = .ok (.aload_n 0, 1) := by decide +kernel
theorem dL_ask_253 : decode cL_ask 253 = .ok (.iload_n 2, 1) := by decide +kernel
theorem dL_ask_254 : decode cL_ask 254 = .ok (.iload_n 3, 1) := by decide +kernel
theorem dL_ask_255 : decode cL_ask 255 = .ok (.iload 4, 2) := by decide +kernel
theorem dL_ask_257 : decode cL_ask 257 = .ok (.invokevirtual 75, 3) := by decide +kernel
theorem dL_ask_260 : decode cL_ask 260 = .ok (.ireturn, 1) := by decide +kernel
theorem dL_ask_261 : decode cL_ask 261 = .ok (.aload_n 0, 1) := by decide +kernel
theorem dL_ask_262 : decode cL_ask 262 = .ok (.iload_n 2, 1) := by decide +kernel
theorem dL_ask_263 : decode cL_ask 263 = .ok (.invokevirtual 79, 3) := by decide +kernel
theorem dL_ask_266 : decode cL_ask 266 = .ok (.ireturn, 1) := by decide +kernel
theorem dL_ask_267 : decode cL_ask 267 = .ok (.aload_n 0, 1) := by decide +kernel
theorem dL_ask_268 : decode cL_ask 268 = .ok (.iload_n 2, 1) := by decide +kernel
theorem dL_ask_269 : decode cL_ask 269 = .ok (.iload_n 3, 1) := by decide +kernel
theorem dL_ask_270 : decode cL_ask 270 = .ok (.i2c, 1) := by decide +kernel
theorem dL_ask_271 : decode cL_ask 271 = .ok (.invokevirtual 82, 3) := by decide +kernel
theorem dL_ask_274 : decode cL_ask 274 = .ok (.ireturn, 1) := by decide +kernel
theorem dL_ask_275 : decode cL_ask 275 = .ok (.aload_n 0, 1) := by decide +kernel
theorem dL_ask_276 : decode cL_ask 276 = .ok (.iload_n 2, 1) := by decide +kernel
theorem dL_ask_277 : decode cL_ask 277 = .ok (.invokevirtual 86, 3) := by decide +kernel
theorem dL_ask_280 : decode cL_ask 280 = .ok (.ifCond .eq 7, 3) := by decide +kernel
theorem dL_ask_283 : decode cL_ask 283 = .ok (.iconst 1, 1) := by decide +kernel
theorem dL_ask_284 : decode cL_ask 284 = .ok (.goto 4, 3) := by decide +kernel
theorem dL_ask_287 : decode cL_ask 287 = .ok (.iconst 0, 1) := by decide +kernel
theorem dL_ask_288 : decode cL_ask 288 = .ok (.ireturn, 1) := by decide +kernel
theorem dL_ask_289 : decode cL_ask 289 = .ok (.aload_n 0, 1) := by decide +kernel
theorem dL_ask_290 : decode cL_ask 290 = .ok (.invokevirtual 89, 3) := by decide +kernel
theorem dL_ask_293 : decode cL_ask 293 = .ok (.ireturn, 1) := by decide +kernel
theorem dL_ask_294 : decode cL_ask 294 = .ok (.astore 6, 2) := by decide +kernel
theorem dL_ask_296 : decode cL_ask 296 = .ok (.sipush (-1001), 3) := by decide +kernel
theorem dL_ask_299 : decode cL_ask 299 = .ok (.ireturn, 1) := by decide +kernel
theorem dL_ask_300 : decode cL_ask 300 = .ok (.astore 6, 2) := by decide +kernel
theorem dL_ask_302 : decode cL_ask 302 = .ok (.sipush (-1002), 3) := by decide +kernel
theorem dL_ask_305 : decode cL_ask 305 = .ok (.ireturn, 1) := by decide +kernel
theorem dL_ask_306 : decode cL_ask 306 = .ok (.astore 6, 2) := by decide +kernel
theorem dL_ask_308 : decode cL_ask 308 = .ok (.sipush (-1003), 3) := by decide +kernel
theorem dL_ask_311 : decode cL_ask 311 = .ok (.ireturn, 1) := by decide +kernel
theorem dL_ask_312 : decode cL_ask 312 = .ok (.astore 6, 2) := by decide +kernel
theorem dL_ask_314 : decode cL_ask 314 = .ok (.sipush (-1004), 3) := by decide +kernel
theorem dL_ask_317 : decode cL_ask 317 = .ok (.ireturn, 1) := by decide +kernel
theorem dL_ask_318 : decode cL_ask 318 = .ok (.astore 6, 2) := by decide +kernel
theorem dL_ask_320 : decode cL_ask 320 = .ok (.sipush (-1005), 3) := by decide +kernel
theorem dL_ask_323 : decode cL_ask 323 = .ok (.ireturn, 1) := by decide +kernel
set_option maxRecDepth 20000 in
theorem ggL_state_L_ask : GoodIn wsL_state wsL_ask := goodIn_ca (goodIn_ca (goodIn_ca (goodIn_ca (goodIn_r _ [6, 7, 8, 9, 10, 11, 12, 13, 14, 15, 16, 17, 18, 19, 20, 21, 22, 23, 24, 25, 26, 27, 28, 29, 30, 31, 32, 33, 34, 35, 36, 37, 38, 39, 40, 41, 42, 43, 44, 45, 46, 47, 48, 49, 50, 51, 52, 53, 54, 55, 56, 57, 58, 59, 60, 61, 62, 63, 64, 65, 66, 67, 68, 69, 70, 71, 72, 73, 74, 75, 76, 77, 78, 79, 80, 81, 82, 83, 84, 85, 86, 87, 88, 89, 90, 91, 92, 93, 94, 95, 96, 97, 98, 99, 100, 101, 102, 103, 104, 105, 106, 107, 108, 109, 110, 111, 112, 113, 114, 115, 116, 117, 118, 119, 120, 121, 122, 123, 124, 125, 126, 127, 128, 129, 130, 131, 132, 133, 134, 135, 136, 137, 138, 139, 140, 141, 142, 143, 144, 145, 146, 147, 148, 149, 150, 151, 152, 153, 154, 155, 156, 157, 158, 159, 160, 161, 162, 163, 164, 165, 166, 167, 168, 169, 170, 171, 172, 173, 174, 175, 176, 177, 178, 179, 180, 181, 182, 183, 184, 185, 186, 187, 188, 189, 190, 191, 192, 193, 194, 195, 196, 197, 198, 199, 200, 201, 202, 203, 204, 205, 206, 207, 208, 209, 210, 211, 212, 213, 214, 215, 216, 217, 218, 219, 220, 221, 222, 223, 224, 225, 226, 227, 228, 229, 230, 231, 232, 233, 234, 235, 236, 237, 238, 239, 240, 241, 242, 243, 244, 245, 246, 247, 248, 249, 250, 251, 252, 253, 254, 255, 256, 257, 258, 259, 260, 261, 262, 263, 264, 265, 266, 267, 268, 269, 270, 271, 272, 273, 274, 275, 276, 277, 278, 279, 280, 281, 282, 283, 284, 285, 286, 287, 288, 289, 290, 291, 296, 297, 298, 299, 300, 301, 302, 303, 304, 305, 306, 307, 308, 309, 310, 311, 312, 313, 314, 315, 316, 317, 318, 319, 320, 321, 322, 323, 324, 325, 326, 327, 328, 329, 330] (by decide +kernel) (by decide +kernel)) (goodIn_sub (fun _ h => List.mem_cons_of_mem _ (List.mem_append_left _ (List.mem_append_left _ (List.mem_append_left _ (List.mem_append_right _ h))))) (by decide +kernel))) (goodIn_sub (fun _ h => List.mem_cons_of_mem _ (List.mem_append_left _ (List.mem_append_left _ (List.mem_append_right _ h)))) (by decide +kernel))) (goodIn_sub (fun _ h => List.mem_cons_of_mem _ (List.mem_append_left _ (List.mem_append_right _ h))) (by decide +kernel))) (goodIn_sub (fun _ h => List.mem_cons_of_mem _ (List.mem_append_right _ h)) (by decide +kernel))
set_option maxRecDepth 20000 in
theorem gL_state_L_ask : GoodIn wsL_state (va_wsS RL 107 yL_ask wsL_ask) := goodIn_app (goodIn_of _ (by decide +kernel)) ggL_state_L_ask
set_option maxRecDepth 20000 in
theorem ggL_state_X6_calls : GoodIn wsL_state wsX6_calls := goodIn_r _ [295, 141, 296, 297, 298, 299, 300, 301, 302, 303, 316, 317] (by decide +kernel) (by decide +kernel)
set_option maxRecDepth 20000 in
theorem gL_state_X6_calls : GoodIn wsL_state (wsV RL 113 RX6 yX6_calls wsX6_calls) := goodIn_app (goodIn_of _ (by decide +kernel)) ggL_state_X6_calls
theorem dL_state_0 : decode cL_state 0 = .ok (.ldc2_w 103, 3) := by decide +kernel
theorem dL_state_3 : decode cL_state 3 = .ok (.lstore_n 3, 1) := by decide +kernel
theorem dL_state_4 : decode cL_state 4 = .ok (.iconst 0, 1) := by decide +kernel
theorem dL_state_5 : decode cL_state 5 = .ok (.istore 5, 2) := by decide +kernel
theorem dL_state_7 : decode cL_state 7 = .ok (.iload 5, 2) := by decide +kernel
theorem dL_state_9 : decode cL_state 9 = .ok (.iload_n 1, 1) := by decide +kernel
theorem dL_state_10 : decode cL_state 10 = .ok (.if_icmp .ge 61, 3) := by decide +kernel
theorem dL_state_13 : decode cL_state 13 = .ok (.ldc2_w 105, 3) := by decide +kernel
theorem dL_state_16 : decode cL_state 16 = .ok (.ldc2_w 105, 3) := by decide +kernel
theorem dL_state_19 : decode cL_state 19 = .ok (.ldc2_w 105, 3) := by decide +kernel
theorem dL_state_22 : decode cL_state 22 = .ok (.lload_n 3, 1) := by decide +kernel
theorem dL_state_23 : decode cL_state 23 = .ok (.lmul, 1) := by decide +kernel
theorem dL_state_24 : decode cL_state 24 = .ok (.aload_n 0, 1) := by decide +kernel
theorem dL_state_25 : decode cL_state 25 = .ok (.iconst 5, 1) := by decide +kernel
theorem dL_state_26 : decode cL_state 26 = .ok (.iload 5, 2) := by decide +kernel
theorem dL_state_28 : decode cL_state 28 = .ok (.iconst 0, 1) := by decide +kernel
theorem dL_state_29 : decode cL_state 29 = .ok (.iconst 0, 1) := by decide +kernel
theorem dL_state_30 : decode cL_state 30 = .ok (.iconst 0, 1) := by decide +kernel
theorem dL_state_31 : decode cL_state 31 = .ok (.invokestatic 107, 3) := by decide +kernel
theorem dL_state_34 : decode cL_state 34 = .ok (.i2l, 1) := by decide +kernel
theorem dL_state_35 : decode cL_state 35 = .ok (.ladd, 1) := by decide +kernel
theorem dL_state_36 : decode cL_state 36 = .ok (.lmul, 1) := by decide +kernel
theorem dL_state_37 : decode cL_state 37 = .ok (.aload_n 0, 1) := by decide +kernel
theorem dL_state_38 : decode cL_state 38 = .ok (.bipush 10, 2) := by decide +kernel
theorem dL_state_40 : decode cL_state 40 = .ok (.iload 5, 2) := by decide +kernel
theorem dL_state_42 : decode cL_state 42 = .ok (.iconst 0, 1) := by decide +kernel
theorem dL_state_43 : decode cL_state 43 = .ok (.iconst 0, 1) := by decide +kernel
theorem dL_state_44 : decode cL_state 44 = .ok (.iconst 0, 1) := by decide +kernel
theorem dL_state_45 : decode cL_state 45 = .ok (.invokestatic 107, 3) := by decide +kernel
theorem dL_state_48 : decode cL_state 48 = .ok (.i2l, 1) := by decide +kernel
theorem dL_state_49 : decode cL_state 49 = .ok (.ladd, 1) := by decide +kernel
theorem dL_state_50 : decode cL_state 50 = .ok (.lmul, 1) := by decide +kernel
theorem dL_state_51 : decode cL_state 51 = .ok (.aload_n 0, 1) := by decide +kernel
theorem dL_state_52 : decode cL_state 52 = .ok (.bipush 11, 2) := by decide +kernel
theorem dL_state_54 : decode cL_state 54 = .ok (.iload 5, 2) := by decide +kernel
theorem dL_state_56 : decode cL_state 56 = .ok (.iconst 0, 1) := by decide +kernel
theorem dL_state_57 : decode cL_state 57 = .ok (.iconst 0, 1) := by decide +kernel
theorem dL_state_58 : decode cL_state 58 = .ok (.iconst 0, 1) := by decide +kernel
theorem dL_state_59 : decode cL_state 59 = .ok (.invokestatic 107, 3) := by decide +kernel
theorem dL_state_62 : decode cL_state 62 = .ok (.i2l, 1) := by decide +kernel
theorem dL_state_63 : decode cL_state 63 = .ok (.ladd, 1) := by decide +kernel
theorem dL_state_64 : decode cL_state 64 = .ok (.lstore_n 3, 1) := by decide +kernel
theorem dL_state_65 : decode cL_state 65 = .ok (.iinc 5 1, 3) := by decide +kernel
theorem dL_state_68 : decode cL_state 68 = .ok (.goto (-61), 3) := by decide +kernel
theorem dL_state_71 : decode cL_state 71 = .ok (.iconst 0, 1) := by decide +kernel
theorem dL_state_72 : decode cL_state 72 = .ok (.istore 5, 2) := by decide +kernel
theorem dL_state_74 : decode cL_state 74 = .ok (.iload 5, 2) := by decide +kernel
theorem dL_state_76 : decode cL_state 76 = .ok (.iload_n 2, 1) := by decide +kernel
theorem dL_state_77 : decode cL_state 77 = .ok (.if_icmp .ge 45, 3) := by decide +kernel
theorem dL_state_80 : decode cL_state 80 = .ok (.ldc2_w 105, 3) := by decide +kernel
theorem dL_state_83 : decode cL_state 83 = .ok (.ldc2_w 105, 3) := by decide +kernel
theorem dL_state_86 : decode cL_state 86 = .ok (.lload_n 3, 1) := by decide +kernel
theorem dL_state_87 : decode cL_state 87 = .ok (.lmul, 1) := by decide +kernel
theorem dL_state_88 : decode cL_state 88 = .ok (.aload_n 0, 1) := by decide +kernel
theorem dL_state_89 : decode cL_state 89 = .ok (.bipush 15, 2) := by decide +kernel
theorem dL_state_91 : decode cL_state 91 = .ok (.iload 5, 2) := by decide +kernel
theorem dL_state_93 : decode cL_state 93 = .ok (.iconst 0, 1) := by decide +kernel
theorem dL_state_94 : decode cL_state 94 = .ok (.iconst 0, 1) := by decide +kernel
theorem dL_state_95 : decode cL_state 95 = .ok (.iconst 0, 1) := by decide +kernel
theorem dL_state_96 : decode cL_state 96 = .ok (.invokestatic 107, 3) := by decide +kernel
theorem dL_state_99 : decode cL_state 99 = .ok (.i2l, 1) := by decide +kernel
theorem dL_state_100 : decode cL_state 100 = .ok (.ladd, 1) := by decide +kernel
theorem dL_state_101 : decode cL_state 101 = .ok (.lmul, 1) := by decide +kernel
theorem dL_state_102 : decode cL_state 102 = .ok (.aload_n 0, 1) := by decide +kernel
theorem dL_state_103 : decode cL_state 103 = .ok (.bipush 17, 2) := by decide +kernel
theorem dL_state_105 : decode cL_state 105 = .ok (.iload 5, 2) := by decide +kernel
theorem dL_state_107 : decode cL_state 107 = .ok (.iconst 0, 1) := by decide +kernel
theorem dL_state_108 : decode cL_state 108 = .ok (.iconst 0, 1) := by decide +kernel
theorem dL_state_109 : decode cL_state 109 = .ok (.iconst 0, 1) := by decide +kernel
theorem dL_state_110 : decode cL_state 110 = .ok (.invokestatic 107, 3) := by decide +kernel
theorem dL_state_113 : decode cL_state 113 = .ok (.i2l, 1) := by decide +kernel
theorem dL_state_114 : decode cL_state 114 = .ok (.ladd, 1) := by decide +kernel
theorem dL_state_115 : decode cL_state 115 = .ok (.lstore_n 3, 1) := by decide +kernel
theorem dL_state_116 : decode cL_state 116 = .ok (.iinc 5 1, 3) := by decide +kernel
theorem dL_state_119 : decode cL_state 119 = .ok (.goto (-45), 3) := by decide +kernel
theorem dL_state_122 : decode cL_state 122 = .ok (.iconst 0, 1) := by decide +kernel
theorem dL_state_123 : decode cL_state 123 = .ok (.istore 5, 2) := by decide +kernel
theorem dL_state_125 : decode cL_state 125 = .ok (.iload 5, 2) := by decide +kernel
theorem dL_state_127 : decode cL_state 127 = .ok (.aload_n 0, 1) := by decide +kernel
theorem dL_state_128 : decode cL_state 128 = .ok (.invokevirtual 113, 3) := by decide +kernel
theorem dL_state_131 : decode cL_state 131 = .ok (.if_icmp .ge 28, 3) := by decide +kernel
theorem dL_state_134 : decode cL_state 134 = .ok (.ldc2_w 105, 3) := by decide +kernel
theorem dL_state_137 : decode cL_state 137 = .ok (.lload_n 3, 1) := by decide +kernel
theorem dL_state_138 : decode cL_state 138 = .ok (.lmul, 1) := by decide +kernel
theorem dL_state_139 : decode cL_state 139 = .ok (.aload_n 0, 1) := by decide +kernel
theorem dL_state_140 : decode cL_state 140 = .ok (.bipush 22, 2) := by decide +kernel
theorem dL_state_142 : decode cL_state 142 = .ok (.iload 5, 2) := by decide +kernel
theorem dL_state_144 : decode cL_state 144 = .ok (.iconst 0, 1) := by decide +kernel
theorem dL_state_145 : decode cL_state 145 = .ok (.iconst 0, 1) := by decide +kernel
theorem dL_state_146 : decode cL_state 146 = .ok (.iconst 0, 1) := by decide +kernel
theorem dL_state_147 : decode cL_state 147 = .ok (.invokestatic 107, 3) := by decide +kernel
theorem dL_state_150 : decode cL_state 150 = .ok (.i2l, 1) := by decide +kernel
theorem dL_state_151 : decode cL_state 151 = .ok (.ladd, 1) := by decide +kernel
theorem dL_state_152 : decode cL_state 152 = .ok (.lstore_n 3, 1) := by decide +kernel
theorem dL_state_153 : decode cL_state 153 = .ok (.iinc 5 1, 3) := by decide +kernel
theorem dL_state_156 : decode cL_state 156 = .ok (.goto (-31), 3) := by decide +kernel
theorem dL_state_159 : decode cL_state 159 = .ok (.ldc2_w 105, 3) := by decide +kernel
theorem dL_state_162 : decode cL_state 162 = .ok (.lload_n 3, 1) := by decide +kernel
theorem dL_state_163 : decode cL_state 163 = .ok (.lmul, 1) := by decide +kernel
theorem dL_state_164 : decode cL_state 164 = .ok (.aload_n 0, 1) := by decide +kernel
theorem dL_state_165 : decode cL_state 165 = .ok (.invokevirtual 113, 3) := by decide +kernel
theorem dL_state_168 : decode cL_state 168 = .ok (.i2l, 1) := by decide +kernel
theorem dL_state_169 : decode cL_state 169 = .ok (.ladd, 1) := by decide +kernel
theorem dL_state_170 : decode cL_state 170 = .ok (.lreturn, 1) := by decide +kernel
set_option maxRecDepth 20000 in
theorem ggL_sound_L_ask : GoodIn wsL_sound wsL_ask := goodIn_ca (goodIn_ca (goodIn_ca (goodIn_ca (goodIn_r _ [4, 5, 6, 7, 8, 9, 10, 11, 12, 13, 14, 15, 16, 17, 18, 19, 20, 21, 22, 23, 24, 25, 26, 27, 28, 29, 30, 31, 32, 33, 34, 35, 36, 37, 38, 39, 40, 41, 42, 43, 44, 45, 46, 47, 48, 49, 50, 51, 52, 53, 54, 55, 56, 57, 58, 59, 60, 61, 62, 63, 64, 65, 66, 67, 68, 69, 70, 71, 72, 73, 74, 75, 76, 77, 78, 79, 80, 81, 82, 83, 84, 85, 86, 87, 88, 89, 90, 91, 92, 93, 94, 95, 96, 97, 98, 99, 100, 101, 102, 103, 104, 105, 106, 107, 108, 109, 110, 111, 112, 113, 114, 115, 116, 117, 118, 119, 120, 121, 122, 123, 124, 125, 126, 127, 128, 129, 130, 131, 132, 133, 134, 135, 136, 137, 138, 139, 140, 141, 142, 143, 144, 145, 146, 147, 148, 149, 150, 151, 152, 153, 154, 155, 156, 157, 158, 159, 160, 161, 162, 163, 164, 165, 166, 167, 168, 169, 170, 171, 172, 173, 174, 175, 176, 177, 178, 179, 180, 181, 182, 183, 184, 185, 186, 187, 188, 189, 190, 191, 192, 193, 194, 195, 196, 197, 198, 199, 200, 201, 202, 203, 204, 205, 206, 207, 208, 209, 210, 211, 212, 213, 214, 215, 216, 217, 218, 219, 220, 221, 222, 223, 224, 225, 226, 227, 228, 229, 230, 231, 232, 233, 234, 235, 236, 237, 238, 239, 240, 241, 242, 243, 244, 245, 246, 247, 248, 249, 250, 251, 252, 253, 254, 255, 256, 257, 258, 259, 260, 261, 262, 263, 264, 265, 266, 267, 268, 269, 270, 271, 272, 273, 274, 275, 276, 277, 278, 279, 280, 281, 282, 283, 284, 285, 286, 287, 288, 289, 335, 336, 337, 338, 339, 340, 341, 342, 343, 344, 345, 346, 347, 348, 349, 350, 351, 352, 353, 354, 355, 356, 357, 358, 359, 360, 361, 362, 363, 364, 365, 366, 367, 368, 369] (by decide +kernel) (by decide +kernel)) (goodIn_sub (fun _ h => List.mem_cons_of_mem _ (List.mem_append_left _ (List.mem_append_left _ (List.mem_append_left _ (List.mem_append_right _ h))))) (by decide +kernel))) (goodIn_sub (fun _ h => List.mem_cons_of_mem _ (List.mem_append_left _ (List.mem_append_left _ (List.mem_append_right _ h)))) (by decide +kernel))) (goodIn_sub (fun _ h => List.mem_cons_of_mem _ (List.mem_append_left _ (List.mem_append_right _ h))) (by decide +kernel))) (goodIn_sub (fun _ h => List.mem_cons_of_mem _ (List.mem_append_right _ h)) (by decide +kernel))
set_option maxRecDepth 20000 in
theorem gL_sound_L_ask : GoodIn wsL_sound (va_wsS RL 107 yL_ask wsL_ask) := goodIn_app (goodIn_of _ (by decide +kernel)) ggL_sound_L_ask
set_option maxRecDepth 20000 in
theorem ggL_sound_X6_bill : GoodIn wsL_sound wsX6_bill := goodIn_ca (goodIn_r _ [235, 211, 212, 213, 13, 214, 85, 86, 196, 363, 364, 365, 366, 335, 336, 337, 338, 339, 340, 341, 342] (by decide +kernel) (by decide +kernel)) (goodIn_sub (fun _ h => List.mem_cons_of_mem _ (List.mem_append_right _ h)) (by decide +kernel))
set_option maxRecDepth 20000 in
theorem gL_sound_X6_bill : GoodIn wsL_sound (wsV RL 68 RX6 yX6_bill wsX6_bill) := goodIn_app (goodIn_of _ (by decide +kernel)) ggL_sound_X6_bill
set_option maxRecDepth 20000 in
theorem ggL_sound_X6_billByLog : GoodIn wsL_sound wsX6_billByLog := goodIn_ca (goodIn_r _ [239, 139, 211, 212, 213, 13, 214, 85, 86, 196, 240, 141, 241, 242, 144, 145, 146, 147, 148, 149, 335, 336, 337, 338, 339, 340, 341, 342, 363, 364, 365, 366, 355, 356, 357, 358, 359, 360, 361, 362] (by decide +kernel) (by decide +kernel)) (goodIn_sub (fun _ h => List.mem_cons_of_mem _ (List.mem_append_right _ h)) (by decide +kernel))
set_option maxRecDepth 20000 in
theorem gL_sound_X6_billByLog : GoodIn wsL_sound (wsV RL 72 RX6 yX6_billByLog wsX6_billByLog) := goodIn_app (goodIn_of _ (by decide +kernel)) ggL_sound_X6_billByLog
set_option maxRecDepth 20000 in
theorem ggL_sound_J0_charAt_5068e : GoodIn wsL_sound wsJ0_charAt_5068e := goodIn_r _ [294, 295, 296, 297, 298, 293, 299, 300, 301, 302, 303, 304, 305, 306, 307, 308, 309, 310, 311, 312, 313, 314, 315, 316, 317, 318, 319, 320, 321, 322, 323, 324, 325, 326, 327, 328, 329, 330, 370, 371] (by decide +kernel) (by decide +kernel)
set_option maxRecDepth 20000 in
theorem gL_sound_J0_charAt_5068e : GoodIn wsL_sound (wsV RL 118 RJ0 yJ0_charAt_5068e wsJ0_charAt_5068e) := goodIn_app (goodIn_of _ (by decide +kernel)) ggL_sound_J0_charAt_5068e
set_option maxRecDepth 20000 in
theorem ggL_sound_X6_calls : GoodIn wsL_sound wsX6_calls := goodIn_r _ [334, 139, 335, 336, 337, 338, 339, 340, 341, 342, 355, 356] (by decide +kernel) (by decide +kernel)
set_option maxRecDepth 20000 in
theorem gL_sound_X6_calls : GoodIn wsL_sound (wsV RL 113 RX6 yX6_calls wsX6_calls) := goodIn_app (goodIn_of _ (by decide +kernel)) ggL_sound_X6_calls
theorem dL_sound_0 : decode cL_sound 0 = .ok (.iconst 0, 1) := by decide +kernel
theorem dL_sound_1 : decode cL_sound 1 = .ok (.istore 5, 2) := by decide +kernel
theorem dL_sound_3 : decode cL_sound 3 = .ok (.iconst 0, 1) := by decide +kernel
theorem dL_sound_4 : decode cL_sound 4 = .ok (.istore 6, 2) := by decide +kernel
theorem dL_sound_6 : decode cL_sound 6 = .ok (.iload 6, 2) := by decide +kernel
theorem dL_sound_8 : decode cL_sound 8 = .ok (.iload_n 2, 1) := by decide +kernel
theorem dL_sound_9 : decode cL_sound 9 = .ok (.if_icmp .ge 129, 3) := by decide +kernel
theorem dL_sound_12 : decode cL_sound 12 = .ok (.aload_n 0, 1) := by decide +kernel
theorem dL_sound_13 : decode cL_sound 13 = .ok (.bipush 15, 2) := by decide +kernel
theorem dL_sound_15 : decode cL_sound 15 = .ok (.iload 6, 2) := by decide +kernel
theorem dL_sound_17 : decode cL_sound 17 = .ok (.iconst 0, 1) := by decide +kernel
theorem dL_sound_18 : decode cL_sound 18 = .ok (.iconst 0, 1) := by decide +kernel
theorem dL_sound_19 : decode cL_sound 19 = .ok (.iconst 0, 1) := by decide +kernel
theorem dL_sound_20 : decode cL_sound 20 = .ok (.invokestatic 107, 3) := by decide +kernel
theorem dL_sound_23 : decode cL_sound 23 = .ok (.istore 7, 2) := by decide +kernel
theorem dL_sound_25 : decode cL_sound 25 = .ok (.iload 7, 2) := by decide +kernel
theorem dL_sound_27 : decode cL_sound 27 = .ok (.ifCond .lt 66, 3) := by decide +kernel
theorem dL_sound_30 : decode cL_sound 30 = .ok (.iload 7, 2) := by decide +kernel
theorem dL_sound_32 : decode cL_sound 32 = .ok (.aload_n 3, 1) := by decide +kernel
theorem dL_sound_33 : decode cL_sound 33 = .ok (.aload 4, 2) := by decide +kernel
theorem dL_sound_35 : decode cL_sound 35 = .ok (.iload 6, 2) := by decide +kernel
theorem dL_sound_37 : decode cL_sound 37 = .ok (.iaload, 1) := by decide +kernel
theorem dL_sound_38 : decode cL_sound 38 = .ok (.iaload, 1) := by decide +kernel
theorem dL_sound_39 : decode cL_sound 39 = .ok (.if_icmp .gt 54, 3) := by decide +kernel
theorem dL_sound_42 : decode cL_sound 42 = .ok (.aload_n 0, 1) := by decide +kernel
theorem dL_sound_43 : decode cL_sound 43 = .ok (.iload 6, 2) := by decide +kernel
theorem dL_sound_45 : decode cL_sound 45 = .ok (.invokevirtual 68, 3) := by decide +kernel
theorem dL_sound_48 : decode cL_sound 48 = .ok (.aload_n 0, 1) := by decide +kernel
theorem dL_sound_49 : decode cL_sound 49 = .ok (.iload 6, 2) := by decide +kernel
theorem dL_sound_51 : decode cL_sound 51 = .ok (.invokevirtual 72, 3) := by decide +kernel
theorem dL_sound_54 : decode cL_sound 54 = .ok (.lcmp, 1) := by decide +kernel
theorem dL_sound_55 : decode cL_sound 55 = .ok (.ifCond .ne 38, 3) := by decide +kernel
theorem dL_sound_58 : decode cL_sound 58 = .ok (.aload_n 0, 1) := by decide +kernel
theorem dL_sound_59 : decode cL_sound 59 = .ok (.iload 6, 2) := by decide +kernel
theorem dL_sound_61 : decode cL_sound 61 = .ok (.invokevirtual 68, 3) := by decide +kernel
theorem dL_sound_64 : decode cL_sound 64 = .ok (.lconst 0, 1) := by decide +kernel
theorem dL_sound_65 : decode cL_sound 65 = .ok (.lcmp, 1) := by decide +kernel
theorem dL_sound_66 : decode cL_sound 66 = .ok (.ifCond .lt 27, 3) := by decide +kernel
theorem dL_sound_69 : decode cL_sound 69 = .ok (.aload_n 0, 1) := by decide +kernel
theorem dL_sound_70 : decode cL_sound 70 = .ok (.iload 6, 2) := by decide +kernel
theorem dL_sound_72 : decode cL_sound 72 = .ok (.invokevirtual 68, 3) := by decide +kernel
theorem dL_sound_75 : decode cL_sound 75 = .ok (.aload_n 0, 1) := by decide +kernel
theorem dL_sound_76 : decode cL_sound 76 = .ok (.aload_n 0, 1) := by decide +kernel
theorem dL_sound_77 : decode cL_sound 77 = .ok (.bipush 23, 2) := by decide +kernel
theorem dL_sound_79 : decode cL_sound 79 = .ok (.iconst 0, 1) := by decide +kernel
theorem dL_sound_80 : decode cL_sound 80 = .ok (.iconst 0, 1) := by decide +kernel
theorem dL_sound_81 : decode cL_sound 81 = .ok (.iconst 0, 1) := by decide +kernel
theorem dL_sound_82 : decode cL_sound 82 = .ok (.iconst 0, 1) := by decide +kernel
theorem dL_sound_83 : decode cL_sound 83 = .ok (.invokestatic 107, 3) := by decide +kernel
theorem dL_sound_86 : decode cL_sound 86 = .ok (.invokevirtual 68, 3) := by decide +kernel
theorem dL_sound_89 : decode cL_sound 89 = .ok (.lcmp, 1) := by decide +kernel
theorem dL_sound_90 : decode cL_sound 90 = .ok (.ifCond .le 5, 3) := by decide +kernel
theorem dL_sound_93 : decode cL_sound 93 = .ok (.iconst 0, 1) := by decide +kernel
theorem dL_sound_94 : decode cL_sound 94 = .ok (.ireturn, 1) := by decide +kernel
theorem dL_sound_95 : decode cL_sound 95 = .ok (.iconst 0, 1) := by decide +kernel
theorem dL_sound_96 : decode cL_sound 96 = .ok (.istore 8, 2) := by decide +kernel
theorem dL_sound_98 : decode cL_sound 98 = .ok (.iload 8, 2) := by decide +kernel
theorem dL_sound_100 : decode cL_sound 100 = .ok (.iconst 5, 1) := by decide +kernel
theorem dL_sound_101 : decode cL_sound 101 = .ok (.if_icmp .ge 31, 3) := by decide +kernel
theorem dL_sound_104 : decode cL_sound 104 = .ok (.iload 5, 2) := by decide +kernel
theorem dL_sound_106 : decode cL_sound 106 = .ok (.aload_n 0, 1) := by decide +kernel
theorem dL_sound_107 : decode cL_sound 107 = .ok (.bipush 21, 2) := by decide +kernel
theorem dL_sound_109 : decode cL_sound 109 = .ok (.iload 6, 2) := by decide +kernel
theorem dL_sound_111 : decode cL_sound 111 = .ok (.ldc 116, 2) := by decide +kernel
theorem dL_sound_113 : decode cL_sound 113 = .ok (.iload 8, 2) := by decide +kernel
theorem dL_sound_115 : decode cL_sound 115 = .ok (.invokevirtual 118, 3) := by decide +kernel
theorem dL_sound_118 : decode cL_sound 118 = .ok (.iconst 0, 1) := by decide +kernel
theorem dL_sound_119 : decode cL_sound 119 = .ok (.iconst 0, 1) := by decide +kernel
theorem dL_sound_120 : decode cL_sound 120 = .ok (.invokestatic 107, 3) := by decide +kernel
theorem dL_sound_123 : decode cL_sound 123 = .ok (.iadd, 1) := by decide +kernel
theorem dL_sound_124 : decode cL_sound 124 = .ok (.istore 5, 2) := by decide +kernel
theorem dL_sound_126 : decode cL_sound 126 = .ok (.iinc 8 1, 3) := by decide +kernel
theorem dL_sound_129 : decode cL_sound 129 = .ok (.goto (-31), 3) := by decide +kernel
theorem dL_sound_132 : decode cL_sound 132 = .ok (.iinc 6 1, 3) := by decide +kernel
theorem dL_sound_135 : decode cL_sound 135 = .ok (.goto (-129), 3) := by decide +kernel
theorem dL_sound_138 : decode cL_sound 138 = .ok (.iconst 0, 1) := by decide +kernel
theorem dL_sound_139 : decode cL_sound 139 = .ok (.istore 6, 2) := by decide +kernel
theorem dL_sound_141 : decode cL_sound 141 = .ok (.iload 6, 2) := by decide +kernel
theorem dL_sound_143 : decode cL_sound 143 = .ok (.iload_n 1, 1) := by decide +kernel
theorem dL_sound_144 : decode cL_sound 144 = .ok (.if_icmp .ge 66, 3) := by decide +kernel
theorem dL_sound_147 : decode cL_sound 147 = .ok (.aload_n 0, 1) := by decide +kernel
theorem dL_sound_148 : decode cL_sound 148 = .ok (.bipush 11, 2) := by decide +kernel
theorem dL_sound_150 : decode cL_sound 150 = .ok (.iload 6, 2) := by decide +kernel
theorem dL_sound_152 : decode cL_sound 152 = .ok (.iconst 0, 1) := by decide +kernel
theorem dL_sound_153 : decode cL_sound 153 = .ok (.iconst 0, 1) := by decide +kernel
theorem dL_sound_154 : decode cL_sound 154 = .ok (.iconst 0, 1) := by decide +kernel
theorem dL_sound_155 : decode cL_sound 155 = .ok (.invokestatic 107, 3) := by decide +kernel
theorem dL_sound_158 : decode cL_sound 158 = .ok (.istore 7, 2) := by decide +kernel
theorem dL_sound_160 : decode cL_sound 160 = .ok (.iload 7, 2) := by decide +kernel
theorem dL_sound_162 : decode cL_sound 162 = .ok (.bipush 8, 2) := by decide +kernel
theorem dL_sound_164 : decode cL_sound 164 = .ok (.if_icmp .gt 38, 3) := by decide +kernel
theorem dL_sound_167 : decode cL_sound 167 = .ok (.iload 7, 2) := by decide +kernel
theorem dL_sound_169 : decode cL_sound 169 = .ok (.sipush (-1005), 3) := by decide +kernel
theorem dL_sound_172 : decode cL_sound 172 = .ok (.if_icmp .ne 7, 3) := by decide +kernel
theorem dL_sound_175 : decode cL_sound 175 = .ok (.iconst 1, 1) := by decide +kernel
theorem dL_sound_176 : decode cL_sound 176 = .ok (.goto 4, 3) := by decide +kernel
theorem dL_sound_179 : decode cL_sound 179 = .ok (.iconst 0, 1) := by decide +kernel
theorem dL_sound_180 : decode cL_sound 180 = .ok (.aload_n 0, 1) := by decide +kernel
theorem dL_sound_181 : decode cL_sound 181 = .ok (.bipush 10, 2) := by decide +kernel
theorem dL_sound_183 : decode cL_sound 183 = .ok (.iload 6, 2) := by decide +kernel
theorem dL_sound_185 : decode cL_sound 185 = .ok (.iconst 0, 1) := by decide +kernel
theorem dL_sound_186 : decode cL_sound 186 = .ok (.iconst 0, 1) := by decide +kernel
theorem dL_sound_187 : decode cL_sound 187 = .ok (.iconst 0, 1) := by decide +kernel
theorem dL_sound_188 : decode cL_sound 188 = .ok (.invokestatic 107, 3) := by decide +kernel
theorem dL_sound_191 : decode cL_sound 191 = .ok (.ifCond .ne 7, 3) := by decide +kernel
theorem dL_sound_194 : decode cL_sound 194 = .ok (.iconst 1, 1) := by decide +kernel
theorem dL_sound_195 : decode cL_sound 195 = .ok (.goto 4, 3) := by decide +kernel
theorem dL_sound_198 : decode cL_sound 198 = .ok (.iconst 0, 1) := by decide +kernel
theorem dL_sound_199 : decode cL_sound 199 = .ok (.if_icmp .eq 5, 3) := by decide +kernel
theorem dL_sound_202 : decode cL_sound 202 = .ok (.iconst 0, 1) := by decide +kernel
theorem dL_sound_203 : decode cL_sound 203 = .ok (.ireturn, 1) := by decide +kernel
theorem dL_sound_204 : decode cL_sound 204 = .ok (.iinc 6 1, 3) := by decide +kernel
theorem dL_sound_207 : decode cL_sound 207 = .ok (.goto (-66), 3) := by decide +kernel
theorem dL_sound_210 : decode cL_sound 210 = .ok (.iload 5, 2) := by decide +kernel
theorem dL_sound_212 : decode cL_sound 212 = .ok (.aload_n 0, 1) := by decide +kernel
theorem dL_sound_213 : decode cL_sound 213 = .ok (.invokevirtual 113, 3) := by decide +kernel
theorem dL_sound_216 : decode cL_sound 216 = .ok (.if_icmp .ne 7, 3) := by decide +kernel
theorem dL_sound_219 : decode cL_sound 219 = .ok (.iconst 1, 1) := by decide +kernel
theorem dL_sound_220 : decode cL_sound 220 = .ok (.goto 4, 3) := by decide +kernel
theorem dL_sound_223 : decode cL_sound 223 = .ok (.iconst 0, 1) := by decide +kernel
theorem dL_sound_224 : decode cL_sound 224 = .ok (.ireturn, 1) := by decide +kernel
set_option maxRecDepth 20000 in
theorem ggL_law_X6_init : GoodIn wsL_law wsX6_init := goodIn_r _ [6, 7, 8, 9, 10, 11, 12, 13, 14, 15, 16, 17, 18, 19, 20, 21, 22, 23, 24, 373, 374, 375, 376, 377, 378, 379, 380, 381, 382] (by decide +kernel) (by decide +kernel)
set_option maxRecDepth 20000 in
theorem gL_law_X6_init : GoodIn wsL_law (wsX6_init) := ggL_law_X6_init
set_option maxRecDepth 20000 in
theorem ggL_law_L_cell : GoodIn wsL_law wsL_cell := goodIn_ca (goodIn_r _ [28, 29] (by decide +kernel) (by decide +kernel)) (goodIn_sub (fun _ h => List.mem_append_left _ (List.mem_append_left _ (List.mem_append_left _ (List.mem_append_left _ (List.mem_append_right _ h))))) (by decide +kernel))
set_option maxRecDepth 20000 in
theorem gL_law_L_cell : GoodIn wsL_law (va_wsS RL 124 yL_cell wsL_cell) := goodIn_app (goodIn_of _ (by decide +kernel)) ggL_law_L_cell
set_option maxRecDepth 20000 in
theorem ggL_law_L_low : GoodIn wsL_law wsL_low := goodIn_r _ [32, 33] (by decide +kernel) (by decide +kernel)
set_option maxRecDepth 20000 in
theorem gL_law_L_low : GoodIn wsL_law (va_wsS RL 128 yL_low wsL_low) := goodIn_app (goodIn_of _ (by decide +kernel)) ggL_law_L_low
set_option maxRecDepth 20000 in
theorem ggL_law_L_state : GoodIn wsL_law wsL_state := goodIn_ca (goodIn_ca (goodIn_ca (goodIn_ca (goodIn_r _ [36, 37, 38, 39, 40, 27, 41, 42, 43, 44, 45, 46, 47, 48, 49, 2, 50, 51, 52, 53, 54, 55, 11, 10, 56, 57, 58, 59, 60, 61, 62, 63, 64, 65, 66, 67, 68, 69, 70, 71, 72, 73, 74, 75, 76, 8, 9, 77, 78, 79, 80, 81, 82, 83, 84, 85, 86, 87, 88, 89, 90, 91, 92, 93, 94, 95, 96, 97, 98, 99, 100, 101, 102, 103, 104, 105, 106, 107, 108, 109, 110, 111, 112, 113, 114, 115, 116, 117, 118, 119, 120, 121, 122, 123, 124, 125, 126, 127, 128, 129, 130, 131, 132, 133, 134, 135, 136, 137, 138, 139, 140, 141, 142, 143, 144, 145, 146, 147, 148, 149, 150, 151, 152, 153, 154, 155, 156, 157, 158, 159, 160, 161, 162, 163, 164, 165, 166, 167, 168, 169, 170, 19, 171, 18, 172, 173, 174, 175, 176, 177, 178, 24, 179, 180, 181, 182, 183, 184, 185, 186, 187, 188, 189, 190, 191, 192, 193, 194, 195, 196, 197, 198, 199, 200, 201, 202, 203, 204, 205, 206, 207, 208, 209, 13, 12, 210, 211, 212, 213, 214, 215, 216, 217, 218, 219, 220, 221, 222, 15, 14, 223, 224, 225, 226, 227, 228, 229, 230, 231, 232, 233, 234, 235, 236, 237, 238, 239, 240, 241, 242, 243, 244, 245, 246, 247, 248, 249, 250, 251, 252, 253, 254, 255, 256, 257, 258, 259, 260, 261, 262, 263, 264, 265, 266, 267, 268, 269, 270, 271, 272, 273, 274, 275, 276, 277, 278, 279, 280, 281, 282, 283, 284, 285, 286, 287, 288, 289, 290, 291, 292, 293, 294, 295, 296, 297, 298, 299, 300, 301, 302, 303, 304, 305, 306, 307, 308, 309, 310, 311, 312, 313, 314, 315, 316, 317, 318, 373, 374, 375, 376, 377, 378, 379, 380, 383, 384, 385, 386, 387, 388, 389, 390, 391, 392, 393, 394, 381, 382, 395, 396, 397, 398, 399, 400, 401, 402, 403, 404, 405, 406, 407] (by decide +kernel) (by decide +kernel)) (goodIn_sub (fun _ h => List.mem_append_left _ (List.mem_append_left _ (List.mem_append_left _ (List.mem_append_right _ h)))) (by decide +kernel))) (goodIn_sub (fun _ h => List.mem_append_left _ (List.mem_append_left _ (List.mem_append_right _ h))) (by decide +kernel))) (goodIn_sub (fun _ h => List.mem_append_left _ (List.mem_append_right _ h)) (by decide +kernel))) (goodIn_sub (fun _ h => List.mem_append_right _ h) (by decide +kernel))
set_option maxRecDepth 20000 in
theorem gL_law_L_state : GoodIn wsL_law (va_wsS RL 131 yL_state wsL_state) := goodIn_app (goodIn_of _ (by decide +kernel)) ggL_law_L_state
set_option maxRecDepth 20000 in
theorem ggL_law_L_ask : GoodIn wsL_law wsL_ask := goodIn_ca (goodIn_ca (goodIn_ca (goodIn_ca (goodIn_r _ [41, 42, 43, 44, 45, 46, 47, 48, 49, 2, 50, 51, 52, 53, 54, 55, 11, 10, 56, 57, 58, 59, 60, 61, 62, 63, 64, 65, 66, 67, 68, 69, 70, 71, 72, 73, 74, 75, 76, 8, 9, 77, 78, 79, 80, 81, 82, 83, 84, 85, 86, 87, 88, 89, 90, 91, 92, 93, 94, 95, 96, 97, 98, 99, 100, 101, 102, 103, 104, 105, 106, 107, 108, 109, 110, 111, 112, 113, 114, 115, 116, 117, 118, 119, 120, 121, 122, 123, 124, 125, 126, 127, 128, 129, 130, 131, 132, 133, 134, 135, 136, 137, 138, 139, 140, 141, 142, 143, 144, 145, 146, 147, 148, 149, 150, 151, 152, 153, 154, 155, 156, 157, 158, 159, 160, 161, 162, 163, 164, 165, 166, 167, 168, 169, 170, 19, 171, 18, 172, 173, 174, 175, 176, 177, 178, 24, 179, 180, 181, 182, 183, 184, 185, 186, 187, 188, 189, 190, 191, 192, 193, 194, 195, 196, 197, 198, 199, 200, 201, 202, 203, 204, 205, 206, 207, 208, 209, 13, 12, 210, 211, 212, 213, 214, 215, 216, 217, 218, 219, 220, 221, 222, 15, 14, 223, 224, 225, 226, 227, 228, 229, 230, 231, 232, 233, 234, 235, 236, 237, 238, 239, 240, 241, 242, 243, 244, 245, 246, 247, 248, 249, 250, 251, 252, 253, 254, 255, 256, 257, 258, 259, 260, 261, 262, 263, 264, 265, 266, 267, 268, 269, 270, 271, 272, 273, 274, 275, 276, 277, 278, 279, 280, 281, 282, 283, 284, 285, 286, 287, 288, 289, 290, 291, 292, 293, 294, 295, 296, 297, 298, 299, 300, 301, 302, 303, 304, 305, 306, 307, 308, 309, 310, 311, 312, 313, 314, 373, 374, 375, 376, 377, 378, 379, 380, 383, 384, 385, 386, 387, 388, 389, 390, 391, 392, 393, 394, 381, 382, 395, 396, 397, 398, 399, 400, 401, 402, 403, 404, 405, 406, 407] (by decide +kernel) (by decide +kernel)) (goodIn_sub (fun _ h => List.mem_append_left _ (List.mem_append_left _ (List.mem_append_left _ (List.mem_append_right _ h)))) (by decide +kernel))) (goodIn_sub (fun _ h => List.mem_append_left _ (List.mem_append_left _ (List.mem_append_right _ h))) (by decide +kernel))) (goodIn_sub (fun _ h => List.mem_append_left _ (List.mem_append_right _ h)) (by decide +kernel))) (goodIn_sub (fun _ h => List.mem_append_right _ h) (by decide +kernel))
set_option maxRecDepth 20000 in
theorem gL_law_L_ask : GoodIn wsL_law (va_wsS RL 107 yL_ask wsL_ask) := goodIn_app (goodIn_of _ (by decide +kernel)) ggL_law_L_ask
set_option maxRecDepth 20000 in
theorem ggL_law_L_undone : GoodIn wsL_law wsL_undone := goodIn_ca (goodIn_ca (goodIn_ca (goodIn_ca (goodIn_r _ [321, 315, 316, 317, 2, 318, 19, 39, 40, 27, 41, 42, 43, 44, 45, 46, 47, 48, 49, 50, 51, 52, 53, 54, 55, 11, 10, 56, 57, 58, 59, 60, 61, 62, 63, 64, 65, 66, 67, 68, 69, 70, 71, 72, 73, 74, 75, 76, 8, 9, 77, 78, 79, 80, 81, 82, 83, 84, 85, 86, 87, 88, 89, 90, 91, 92, 93, 94, 95, 96, 97, 98, 99, 100, 101, 102, 103, 104, 105, 106, 107, 108, 109, 110, 111, 112, 113, 114, 115, 116, 117, 118, 119, 120, 121, 122, 123, 124, 125, 126, 127, 128, 129, 130, 131, 132, 133, 134, 135, 136, 137, 138, 139, 140, 141, 142, 143, 144, 145, 146, 147, 148, 149, 150, 151, 152, 153, 154, 155, 156, 157, 158, 159, 160, 161, 162, 163, 164, 165, 166, 167, 168, 169, 170, 171, 18, 172, 173, 174, 175, 176, 177, 178, 24, 179, 180, 181, 182, 183, 184, 185, 186, 187, 188, 189, 190, 191, 192, 193, 194, 195, 196, 197, 198, 199, 200, 201, 202, 203, 204, 205, 206, 207, 208, 209, 13, 12, 210, 211, 212, 213, 214, 215, 216, 217, 218, 219, 220, 221, 222, 15, 14, 223, 224, 225, 226, 227, 228, 229, 230, 231, 232, 233, 234, 235, 236, 237, 238, 239, 240, 241, 242, 243, 244, 245, 246, 247, 248, 249, 250, 251, 252, 253, 254, 255, 256, 257, 258, 259, 260, 261, 262, 263, 264, 265, 266, 267, 268, 269, 270, 271, 272, 273, 274, 275, 276, 277, 278, 279, 280, 281, 282, 283, 284, 285, 286, 287, 288, 289, 290, 291, 292, 293, 294, 295, 296, 297, 298, 299, 300, 301, 302, 303, 304, 305, 306, 307, 308, 309, 310, 311, 312, 313, 314, 373, 374, 375, 376, 377, 378, 379, 380, 381, 382, 383, 384, 385, 386, 387, 388, 389, 390, 391, 392, 393, 394, 395, 396, 397, 398, 399, 400, 401, 402, 403, 404, 405, 406, 407] (by decide +kernel) (by decide +kernel)) (goodIn_sub (fun _ h => List.mem_append_left _ (List.mem_append_left _ (List.mem_append_left _ (List.mem_append_right _ h)))) (by decide +kernel))) (goodIn_sub (fun _ h => List.mem_append_left _ (List.mem_append_left _ (List.mem_append_right _ h))) (by decide +kernel))) (goodIn_sub (fun _ h => List.mem_append_left _ (List.mem_append_right _ h)) (by decide +kernel))) (goodIn_sub (fun _ h => List.mem_append_right _ h) (by decide +kernel))
set_option maxRecDepth 20000 in
theorem gL_law_L_undone : GoodIn wsL_law (va_wsS RL 135 yL_undone wsL_undone) := goodIn_app (goodIn_of _ (by decide +kernel)) ggL_law_L_undone
set_option maxRecDepth 20000 in
theorem ggL_law_L_tokens : GoodIn wsL_law wsL_tokens := goodIn_ca (goodIn_ca (goodIn_ca (goodIn_ca (goodIn_r _ [324, 39, 40, 27, 41, 42, 43, 44, 45, 46, 47, 48, 49, 2, 50, 51, 52, 53, 54, 55, 11, 10, 56, 57, 58, 59, 60, 61, 62, 63, 64, 65, 66, 67, 68, 69, 70, 71, 72, 73, 74, 75, 76, 8, 9, 77, 78, 79, 80, 81, 82, 83, 84, 85, 86, 87, 88, 89, 90, 91, 92, 93, 94, 95, 96, 97, 98, 99, 100, 101, 102, 103, 104, 105, 106, 107, 108, 109, 110, 111, 112, 113, 114, 115, 116, 117, 118, 119, 120, 121, 122, 123, 124, 125, 126, 127, 128, 129, 130, 131, 132, 133, 134, 135, 136, 137, 138, 139, 140, 141, 142, 143, 144, 145, 146, 147, 148, 149, 150, 151, 152, 153, 154, 155, 156, 157, 158, 159, 160, 161, 162, 163, 164, 165, 166, 167, 168, 169, 170, 19, 171, 18, 172, 173, 174, 175, 176, 177, 178, 24, 179, 180, 181, 182, 183, 184, 185, 186, 187, 188, 189, 190, 191, 192, 193, 194, 195, 196, 197, 198, 199, 200, 201, 202, 203, 204, 205, 206, 207, 208, 209, 13, 12, 210, 211, 212, 213, 214, 215, 216, 217, 218, 219, 220, 221, 222, 15, 14, 223, 224, 225, 226, 227, 228, 229, 230, 231, 232, 233, 234, 235, 236, 237, 238, 239, 240, 241, 242, 243, 244, 245, 246, 247, 248, 249, 250, 251, 252, 253, 254, 255, 256, 257, 258, 259, 260, 261, 262, 263, 264, 265, 266, 267, 268, 269, 270, 271, 272, 273, 274, 275, 276, 277, 278, 279, 280, 281, 282, 283, 284, 285, 286, 287, 288, 289, 290, 291, 292, 293, 294, 295, 296, 297, 298, 299, 300, 301, 302, 303, 304, 305, 306, 307, 308, 309, 310, 311, 312, 313, 314, 373, 374, 375, 376, 377, 378, 379, 380, 383, 384, 385, 386, 387, 388, 389, 390, 391, 392, 393, 394, 381, 382, 395, 396, 397, 398, 399, 400, 401, 402, 403, 404, 405, 406, 407] (by decide +kernel) (by decide +kernel)) (goodIn_sub (fun _ h => List.mem_append_left _ (List.mem_append_left _ (List.mem_append_left _ (List.mem_append_right _ h)))) (by decide +kernel))) (goodIn_sub (fun _ h => List.mem_append_left _ (List.mem_append_left _ (List.mem_append_right _ h))) (by decide +kernel))) (goodIn_sub (fun _ h => List.mem_append_left _ (List.mem_append_right _ h)) (by decide +kernel))) (goodIn_sub (fun _ h => List.mem_append_right _ h) (by decide +kernel))
set_option maxRecDepth 20000 in
theorem gL_law_L_tokens : GoodIn wsL_law (va_wsS RL 139 yL_tokens wsL_tokens) := goodIn_app (goodIn_of _ (by decide +kernel)) ggL_law_L_tokens
set_option maxRecDepth 20000 in
theorem ggL_law_X6_calls : GoodIn wsL_law wsX6_calls := goodIn_r _ [318, 19, 373, 374, 375, 376, 377, 378, 379, 380, 381, 382] (by decide +kernel) (by decide +kernel)
set_option maxRecDepth 20000 in
theorem gL_law_X6_calls : GoodIn wsL_law (wsV RL 113 RX6 yX6_calls wsX6_calls) := goodIn_app (goodIn_of _ (by decide +kernel)) ggL_law_X6_calls
set_option maxRecDepth 20000 in
theorem ggL_law_L_bills : GoodIn wsL_law wsL_bills := goodIn_ca (goodIn_r _ [327, 328, 38, 257, 258, 259, 2, 260, 236, 237, 238, 239, 117, 118, 15, 401, 402, 403, 404, 373, 374, 375, 376, 377, 378, 379, 380] (by decide +kernel) (by decide +kernel)) (goodIn_sub (fun _ h => List.mem_append_right _ h) (by decide +kernel))
set_option maxRecDepth 20000 in
theorem gL_law_L_bills : GoodIn wsL_law (va_wsS RL 142 yL_bills wsL_bills) := goodIn_app (goodIn_of _ (by decide +kernel)) ggL_law_L_bills
set_option maxRecDepth 20000 in
theorem ggL_law_L_sound : GoodIn wsL_law wsL_sound := goodIn_ca (goodIn_ca (goodIn_ca (goodIn_ca (goodIn_ca (goodIn_r _ [331, 39, 40, 27, 41, 42, 43, 44, 45, 46, 47, 48, 49, 2, 50, 51, 52, 53, 54, 55, 11, 10, 56, 57, 58, 59, 60, 61, 62, 63, 64, 65, 66, 67, 68, 69, 70, 71, 72, 73, 74, 75, 76, 8, 9, 77, 78, 79, 80, 81, 82, 83, 84, 85, 86, 87, 88, 89, 90, 91, 92, 93, 94, 95, 96, 97, 98, 99, 100, 101, 102, 103, 104, 105, 106, 107, 108, 109, 110, 111, 112, 113, 114, 115, 116, 117, 118, 119, 120, 121, 122, 123, 124, 125, 126, 127, 128, 129, 130, 131, 132, 133, 134, 135, 136, 137, 138, 139, 140, 141, 142, 143, 144, 145, 146, 147, 148, 149, 150, 151, 152, 153, 154, 155, 156, 157, 158, 159, 160, 161, 162, 163, 164, 165, 166, 167, 168, 169, 170, 19, 171, 18, 172, 173, 174, 175, 176, 177, 178, 24, 179, 180, 181, 182, 183, 184, 185, 186, 187, 188, 189, 190, 191, 192, 193, 194, 195, 196, 197, 198, 199, 200, 201, 202, 203, 204, 205, 206, 207, 208, 209, 13, 12, 210, 211, 212, 213, 214, 215, 216, 217, 218, 219, 220, 221, 222, 15, 14, 223, 224, 225, 226, 227, 228, 229, 230, 231, 232, 233, 234, 235, 236, 237, 238, 239, 240, 241, 242, 243, 244, 245, 246, 247, 248, 249, 250, 251, 252, 253, 254, 255, 256, 257, 258, 259, 260, 261, 262, 263, 264, 265, 266, 267, 268, 269, 270, 271, 272, 273, 274, 275, 276, 277, 278, 279, 280, 281, 282, 283, 284, 285, 286, 287, 288, 289, 290, 291, 292, 293, 294, 295, 296, 297, 298, 299, 300, 301, 302, 303, 304, 305, 306, 307, 308, 309, 310, 311, 312, 313, 314, 332, 333, 334, 335, 336, 337, 338, 339, 340, 341, 342, 343, 344, 345, 346, 347, 348, 349, 350, 351, 352, 353, 354, 355, 356, 357, 358, 359, 360, 361, 362, 363, 364, 365, 366, 367, 368, 369, 370, 371, 372, 315, 316, 317, 318, 373, 374, 375, 376, 377, 378, 379, 380, 383, 384, 385, 386, 387, 388, 389, 390, 391, 392, 393, 394, 381, 382, 395, 396, 397, 398, 399, 400, 401, 402, 403, 404, 405, 406, 407, 408, 409] (by decide +kernel) (by decide +kernel)) (goodIn_sub (fun _ h => List.mem_append_left _ (List.mem_append_left _ (List.mem_append_left _ (List.mem_append_left _ (List.mem_append_right _ h))))) (by decide +kernel))) (goodIn_sub (fun _ h => List.mem_append_left _ (List.mem_append_left _ (List.mem_append_left _ (List.mem_append_right _ h)))) (by decide +kernel))) (goodIn_sub (fun _ h => List.mem_append_left _ (List.mem_append_left _ (List.mem_append_right _ h))) (by decide +kernel))) (goodIn_sub (fun _ h => List.mem_append_left _ (List.mem_append_right _ h)) (by decide +kernel))) (goodIn_sub (fun _ h => List.mem_append_right _ h) (by decide +kernel))
set_option maxRecDepth 20000 in
theorem gL_law_L_sound : GoodIn wsL_law (va_wsS RL 146 yL_sound wsL_sound) := goodIn_app (goodIn_of _ (by decide +kernel)) ggL_law_L_sound
theorem dL_law_0 : decode cL_law 0 = .ok (.new 10, 3) := by decide +kernel
theorem dL_law_3 : decode cL_law 3 = .ok (.dup, 1) := by decide +kernel
theorem dL_law_4 : decode cL_law 4 = .ok (.invokespecial 123, 3) := by decide +kernel
theorem dL_law_7 : decode cL_law 7 = .ok (.astore_n 1, 1) := by decide +kernel
theorem dL_law_8 : decode cL_law 8 = .ok (.iconst 3, 1) := by decide +kernel
theorem dL_law_9 : decode cL_law 9 = .ok (.newarray .int, 2) := by decide +kernel
theorem dL_law_11 : decode cL_law 11 = .ok (.astore_n 2, 1) := by decide +kernel
theorem dL_law_12 : decode cL_law 12 = .ok (.bipush 6, 2) := by decide +kernel
theorem dL_law_14 : decode cL_law 14 = .ok (.newarray .int, 2) := by decide +kernel
theorem dL_law_16 : decode cL_law 16 = .ok (.astore_n 3, 1) := by decide +kernel
theorem dL_law_17 : decode cL_law 17 = .ok (.iconst 0, 1) := by decide +kernel
theorem dL_law_18 : decode cL_law 18 = .ok (.istore 4, 2) := by decide +kernel
theorem dL_law_20 : decode cL_law 20 = .ok (.iconst 0, 1) := by decide +kernel
theorem dL_law_21 : decode cL_law 21 = .ok (.istore 5, 2) := by decide +kernel
theorem dL_law_23 : decode cL_law 23 = .ok (.iconst 0, 1) := by decide +kernel
theorem dL_law_24 : decode cL_law 24 = .ok (.istore 6, 2) := by decide +kernel
theorem dL_law_26 : decode cL_law 26 = .ok (.iconst 0, 1) := by decide +kernel
theorem dL_law_27 : decode cL_law 27 = .ok (.istore 7, 2) := by decide +kernel
theorem dL_law_29 : decode cL_law 29 = .ok (.iload 7, 2) := by decide +kernel
theorem dL_law_31 : decode cL_law 31 = .ok (.bipush 56, 2) := by decide +kernel
theorem dL_law_33 : decode cL_law 33 = .ok (.if_icmp .ge 1220, 3) := by decide +kernel
theorem dL_law_36 : decode cL_law 36 = .ok (.aload_n 0, 1) := by decide +kernel
theorem dL_law_37 : decode cL_law 37 = .ok (.iload 7, 2) := by decide +kernel
theorem dL_law_39 : decode cL_law 39 = .ok (.invokestatic 124, 3) := by decide +kernel
theorem dL_law_42 : decode cL_law 42 = .ok (.istore 8, 2) := by decide +kernel
theorem dL_law_44 : decode cL_law 44 = .ok (.iload 8, 2) := by decide +kernel
theorem dL_law_46 : decode cL_law 46 = .ok (.iconst 5, 1) := by decide +kernel
theorem dL_law_47 : decode cL_law 47 = .ok (.ishr, 1) := by decide +kernel
theorem dL_law_48 : decode cL_law 48 = .ok (.iload 4, 2) := by decide +kernel
theorem dL_law_50 : decode cL_law 50 = .ok (.iconst 1, 1) := by decide +kernel
theorem dL_law_51 : decode cL_law 51 = .ok (.iadd, 1) := by decide +kernel
theorem dL_law_52 : decode cL_law 52 = .ok (.invokestatic 128, 3) := by decide +kernel
theorem dL_law_55 : decode cL_law 55 = .ok (.istore 9, 2) := by decide +kernel
theorem dL_law_57 : decode cL_law 57 = .ok (.iload 8, 2) := by decide +kernel
theorem dL_law_59 : decode cL_law 59 = .ok (.bipush 9, 2) := by decide +kernel
theorem dL_law_61 : decode cL_law 61 = .ok (.ishr, 1) := by decide +kernel
theorem dL_law_62 : decode cL_law 62 = .ok (.iload 5, 2) := by decide +kernel
theorem dL_law_64 : decode cL_law 64 = .ok (.iconst 1, 1) := by decide +kernel
theorem dL_law_65 : decode cL_law 65 = .ok (.iadd, 1) := by decide +kernel
theorem dL_law_66 : decode cL_law 66 = .ok (.invokestatic 128, 3) := by decide +kernel
theorem dL_law_69 : decode cL_law 69 = .ok (.istore 10, 2) := by decide +kernel
theorem dL_law_71 : decode cL_law 71 = .ok (.iload 7, 2) := by decide +kernel
theorem dL_law_73 : decode cL_law 73 = .ok (.iconst 2, 1) := by decide +kernel
theorem dL_law_74 : decode cL_law 74 = .ok (.if_icmp .ge 8, 3) := by decide +kernel
theorem dL_law_77 : decode cL_law 77 = .ok (.bipush 24, 2) := by decide +kernel
theorem dL_law_79 : decode cL_law 79 = .ok (.goto 30, 3) := by decide +kernel
theorem dL_law_82 : decode cL_law 82 = .ok (.iload 7, 2) := by decide +kernel
theorem dL_law_84 : decode cL_law 84 = .ok (.iconst 4, 1) := by decide +kernel
theorem dL_law_85 : decode cL_law 85 = .ok (.if_icmp .ge 8, 3) := by decide +kernel
theorem dL_law_88 : decode cL_law 88 = .ok (.bipush 25, 2) := by decide +kernel
theorem dL_law_90 : decode cL_law 90 = .ok (.goto 19, 3) := by decide +kernel
theorem dL_law_93 : decode cL_law 93 = .ok (.iload 7, 2) := by decide +kernel
theorem dL_law_95 : decode cL_law 95 = .ok (.bipush 7, 2) := by decide +kernel
theorem dL_law_97 : decode cL_law 97 = .ok (.if_icmp .ge 7, 3) := by decide +kernel
theorem dL_law_100 : decode cL_law 100 = .ok (.iconst 0, 1) := by decide +kernel
theorem dL_law_101 : decode cL_law 101 = .ok (.goto 8, 3) := by decide +kernel
theorem dL_law_104 : decode cL_law 104 = .ok (.iload 8, 2) := by decide +kernel
theorem dL_law_106 : decode cL_law 106 = .ok (.bipush 31, 2) := by decide +kernel
theorem dL_law_108 : decode cL_law 108 = .ok (.iand, 1) := by decide +kernel
theorem dL_law_109 : decode cL_law 109 = .ok (.istore 11, 2) := by decide +kernel
theorem dL_law_111 : decode cL_law 111 = .ok (.iload 8, 2) := by decide +kernel
theorem dL_law_113 : decode cL_law 113 = .ok (.bipush 12, 2) := by decide +kernel
theorem dL_law_115 : decode cL_law 115 = .ok (.ishr, 1) := by decide +kernel
theorem dL_law_116 : decode cL_law 116 = .ok (.iconst 3, 1) := by decide +kernel
theorem dL_law_117 : decode cL_law 117 = .ok (.invokestatic 128, 3) := by decide +kernel
theorem dL_law_120 : decode cL_law 120 = .ok (.ifCond .ne 16, 3) := by decide +kernel
theorem dL_law_123 : decode cL_law 123 = .ok (.iload 8, 2) := by decide +kernel
theorem dL_law_125 : decode cL_law 125 = .ok (.bipush 14, 2) := by decide +kernel
theorem dL_law_127 : decode cL_law 127 = .ok (.ishr, 1) := by decide +kernel
theorem dL_law_128 : decode cL_law 128 = .ok (.bipush 10, 2) := by decide +kernel
theorem dL_law_130 : decode cL_law 130 = .ok (.invokestatic 128, 3) := by decide +kernel
theorem dL_law_133 : decode cL_law 133 = .ok (.goto 29, 3) := by decide +kernel
theorem dL_law_136 : decode cL_law 136 = .ok (.bipush 10, 2) := by decide +kernel
theorem dL_law_138 : decode cL_law 138 = .ok (.iconst 1, 1) := by decide +kernel
theorem dL_law_139 : decode cL_law 139 = .ok (.iload 8, 2) := by decide +kernel
theorem dL_law_141 : decode cL_law 141 = .ok (.bipush 14, 2) := by decide +kernel
theorem dL_law_143 : decode cL_law 143 = .ok (.ishr, 1) := by decide +kernel
theorem dL_law_144 : decode cL_law 144 = .ok (.iconst 3, 1) := by decide +kernel
theorem dL_law_145 : decode cL_law 145 = .ok (.invokestatic 128, 3) := by decide +kernel
theorem dL_law_148 : decode cL_law 148 = .ok (.iadd, 1) := by decide +kernel
theorem dL_law_149 : decode cL_law 149 = .ok (.imul, 1) := by decide +kernel
theorem dL_law_150 : decode cL_law 150 = .ok (.iconst 1, 1) := by decide +kernel
theorem dL_law_151 : decode cL_law 151 = .ok (.iadd, 1) := by decide +kernel
theorem dL_law_152 : decode cL_law 152 = .ok (.iload 8, 2) := by decide +kernel
theorem dL_law_154 : decode cL_law 154 = .ok (.bipush 16, 2) := by decide +kernel
theorem dL_law_156 : decode cL_law 156 = .ok (.ishr, 1) := by decide +kernel
theorem dL_law_157 : decode cL_law 157 = .ok (.iconst 3, 1) := by decide +kernel
theorem dL_law_158 : decode cL_law 158 = .ok (.invokestatic 128, 3) := by decide +kernel
theorem dL_law_161 : decode cL_law 161 = .ok (.iadd, 1) := by decide +kernel
theorem dL_law_162 : decode cL_law 162 = .ok (.istore 12, 2) := by decide +kernel
theorem dL_law_164 : decode cL_law 164 = .ok (.aload_n 1, 1) := by decide +kernel
theorem dL_law_165 : decode cL_law 165 = .ok (.iload 4, 2) := by decide +kernel
theorem dL_law_167 : decode cL_law 167 = .ok (.iload 5, 2) := by decide +kernel
theorem dL_law_169 : decode cL_law 169 = .ok (.invokestatic 131, 3) := by decide +kernel
theorem dL_law_172 : decode cL_law 172 = .ok (.lstore 13, 2) := by decide +kernel
theorem dL_law_174 : decode cL_law 174 = .ok (.iconst 0, 1) := by decide +kernel
theorem dL_law_175 : decode cL_law 175 = .ok (.istore 15, 2) := by decide +kernel
theorem dL_law_177 : decode cL_law 177 = .ok (.iload 11, 2) := by decide +kernel
theorem dL_law_179 : decode cL_law 179 = .ok (.iconst 2, 1) := by decide +kernel
theorem dL_law_180 : decode cL_law 180 = .ok (.if_icmp .ge 53, 3) := by decide +kernel
theorem dL_law_183 : decode cL_law 183 = .ok (.aload_n 1, 1) := by decide +kernel
theorem dL_law_184 : decode cL_law 184 = .ok (.iconst 0, 1) := by decide +kernel
theorem dL_law_185 : decode cL_law 185 = .ok (.iload 12, 2) := by decide +kernel
theorem dL_law_187 : decode cL_law 187 = .ok (.iconst 1, 1) := by decide +kernel
theorem dL_law_188 : decode cL_law 188 = .ok (.iload 8, 2) := by decide +kernel
theorem dL_law_190 : decode cL_law 190 = .ok (.bipush 19, 2) := by decide +kernel
theorem dL_law_192 : decode cL_law 192 = .ok (.ishr, 1) := by decide +kernel
theorem dL_law_193 : decode cL_law 193 = .ok (.iconst 5, 1) := by decide +kernel
theorem dL_law_194 : decode cL_law 194 = .ok (.invokestatic 128, 3) := by decide +kernel
theorem dL_law_197 : decode cL_law 197 = .ok (.iadd, 1) := by decide +kernel
theorem dL_law_198 : decode cL_law 198 = .ok (.iconst 0, 1) := by decide +kernel
theorem dL_law_199 : decode cL_law 199 = .ok (.iload 8, 2) := by decide +kernel
theorem dL_law_201 : decode cL_law 201 = .ok (.bipush 21, 2) := by decide +kernel
theorem dL_law_203 : decode cL_law 203 = .ok (.ishr, 1) := by decide +kernel
theorem dL_law_204 : decode cL_law 204 = .ok (.sipush 1000, 3) := by decide +kernel
theorem dL_law_207 : decode cL_law 207 = .ok (.invokestatic 128, 3) := by decide +kernel
theorem dL_law_210 : decode cL_law 210 = .ok (.invokestatic 107, 3) := by decide +kernel
theorem dL_law_213 : decode cL_law 213 = .ok (.istore 15, 2) := by decide +kernel
theorem dL_law_215 : decode cL_law 215 = .ok (.iload 4, 2) := by decide +kernel
theorem dL_law_217 : decode cL_law 217 = .ok (.iload 15, 2) := by decide +kernel
theorem dL_law_219 : decode cL_law 219 = .ok (.ifCond .lt 7, 3) := by decide +kernel
theorem dL_law_222 : decode cL_law 222 = .ok (.iconst 1, 1) := by decide +kernel
theorem dL_law_223 : decode cL_law 223 = .ok (.goto 4, 3) := by decide +kernel
theorem dL_law_226 : decode cL_law 226 = .ok (.iconst 0, 1) := by decide +kernel
theorem dL_law_227 : decode cL_law 227 = .ok (.iadd, 1) := by decide +kernel
theorem dL_law_228 : decode cL_law 228 = .ok (.istore 4, 2) := by decide +kernel
theorem dL_law_230 : decode cL_law 230 = .ok (.goto 983, 3) := by decide +kernel
theorem dL_law_233 : decode cL_law 233 = .ok (.iload 11, 2) := by decide +kernel
theorem dL_law_235 : decode cL_law 235 = .ok (.iconst 5, 1) := by decide +kernel
theorem dL_law_236 : decode cL_law 236 = .ok (.if_icmp .ge 76, 3) := by decide +kernel
theorem dL_law_239 : decode cL_law 239 = .ok (.aload_n 1, 1) := by decide +kernel
theorem dL_law_240 : decode cL_law 240 = .ok (.bipush 6, 2) := by decide +kernel
theorem dL_law_242 : decode cL_law 242 = .ok (.iload 9, 2) := by decide +kernel
theorem dL_law_244 : decode cL_law 244 = .ok (.iload 8, 2) := by decide +kernel
theorem dL_law_246 : decode cL_law 246 = .ok (.bipush 12, 2) := by decide +kernel
theorem dL_law_248 : decode cL_law 248 = .ok (.ishr, 1) := by decide +kernel
theorem dL_law_249 : decode cL_law 249 = .ok (.sipush 1002, 3) := by decide +kernel
theorem dL_law_252 : decode cL_law 252 = .ok (.invokestatic 128, 3) := by decide +kernel
theorem dL_law_255 : decode cL_law 255 = .ok (.iconst 1, 1) := by decide +kernel
theorem dL_law_256 : decode cL_law 256 = .ok (.iload 8, 2) := by decide +kernel
theorem dL_law_258 : decode cL_law 258 = .ok (.bipush 15, 2) := by decide +kernel
theorem dL_law_260 : decode cL_law 260 = .ok (.ishr, 1) := by decide +kernel
theorem dL_law_261 : decode cL_law 261 = .ok (.bipush 100, 2) := by decide +kernel
theorem dL_law_263 : decode cL_law 263 = .ok (.invokestatic 128, 3) := by decide +kernel
theorem dL_law_266 : decode cL_law 266 = .ok (.iadd, 1) := by decide +kernel
theorem dL_law_267 : decode cL_law 267 = .ok (.iconst 1, 1) := by decide +kernel
theorem dL_law_268 : decode cL_law 268 = .ok (.iload 8, 2) := by decide +kernel
theorem dL_law_270 : decode cL_law 270 = .ok (.bipush 20, 2) := by decide +kernel
theorem dL_law_272 : decode cL_law 272 = .ok (.ishr, 1) := by decide +kernel
theorem dL_law_273 : decode cL_law 273 = .ok (.bipush 9, 2) := by decide +kernel
theorem dL_law_275 : decode cL_law 275 = .ok (.invokestatic 128, 3) := by decide +kernel
theorem dL_law_278 : decode cL_law 278 = .ok (.iadd, 1) := by decide +kernel
theorem dL_law_279 : decode cL_law 279 = .ok (.invokestatic 107, 3) := by decide +kernel
theorem dL_law_282 : decode cL_law 282 = .ok (.istore 15, 2) := by decide +kernel
theorem dL_law_284 : decode cL_law 284 = .ok (.iload 15, 2) := by decide +kernel
theorem dL_law_286 : decode cL_law 286 = .ok (.ifCond .lt 927, 3) := by decide +kernel
theorem dL_law_289 : decode cL_law 289 = .ok (.aload_n 1, 1) := by decide +kernel
theorem dL_law_290 : decode cL_law 290 = .ok (.bipush 11, 2) := by decide +kernel
theorem dL_law_292 : decode cL_law 292 = .ok (.iload 9, 2) := by decide +kernel
theorem dL_law_294 : decode cL_law 294 = .ok (.iconst 0, 1) := by decide +kernel
theorem dL_law_295 : decode cL_law 295 = .ok (.iconst 0, 1) := by decide +kernel
theorem dL_law_296 : decode cL_law 296 = .ok (.iconst 0, 1) := by decide +kernel
theorem dL_law_297 : decode cL_law 297 = .ok (.invokestatic 107, 3) := by decide +kernel
theorem dL_law_300 : decode cL_law 300 = .ok (.ifCond .ne 10, 3) := by decide +kernel
theorem dL_law_303 : decode cL_law 303 = .ok (.iload 15, 2) := by decide +kernel
theorem dL_law_305 : decode cL_law 305 = .ok (.iload 4, 2) := by decide +kernel
theorem dL_law_307 : decode cL_law 307 = .ok (.if_icmp .le 906, 3) := by decide +kernel
theorem dL_law_310 : decode cL_law 310 = .ok (.iconst 0, 1) := by decide +kernel
theorem dL_law_311 : decode cL_law 311 = .ok (.ireturn, 1) := by decide +kernel
theorem dL_law_312 : decode cL_law 312 = .ok (.iload 11, 2) := by decide +kernel
theorem dL_law_314 : decode cL_law 314 = .ok (.iconst 5, 1) := by decide +kernel
theorem dL_law_315 : decode cL_law 315 = .ok (.if_icmp .ne 62, 3) := by decide +kernel
theorem dL_law_318 : decode cL_law 318 = .ok (.aload_n 1, 1) := by decide +kernel
theorem dL_law_319 : decode cL_law 319 = .ok (.iconst 0, 1) := by decide +kernel
theorem dL_law_320 : decode cL_law 320 = .ok (.iload 5, 2) := by decide +kernel
theorem dL_law_322 : decode cL_law 322 = .ok (.invokestatic 131, 3) := by decide +kernel
theorem dL_law_325 : decode cL_law 325 = .ok (.lstore 16, 2) := by decide +kernel
theorem dL_law_327 : decode cL_law 327 = .ok (.aload_n 1, 1) := by decide +kernel
theorem dL_law_328 : decode cL_law 328 = .ok (.bipush 8, 2) := by decide +kernel
theorem dL_law_330 : decode cL_law 330 = .ok (.iload 9, 2) := by decide +kernel
theorem dL_law_332 : decode cL_law 332 = .ok (.iconst 0, 1) := by decide +kernel
theorem dL_law_333 : decode cL_law 333 = .ok (.iconst 0, 1) := by decide +kernel
theorem dL_law_334 : decode cL_law 334 = .ok (.iconst 0, 1) := by decide +kernel
theorem dL_law_335 : decode cL_law 335 = .ok (.invokestatic 107, 3) := by decide +kernel
theorem dL_law_338 : decode cL_law 338 = .ok (.istore 15, 2) := by decide +kernel
theorem dL_law_340 : decode cL_law 340 = .ok (.iload 15, 2) := by decide +kernel
theorem dL_law_342 : decode cL_law 342 = .ok (.ifCond .lt 32, 3) := by decide +kernel
theorem dL_law_345 : decode cL_law 345 = .ok (.aload_n 1, 1) := by decide +kernel
theorem dL_law_346 : decode cL_law 346 = .ok (.iconst 0, 1) := by decide +kernel
theorem dL_law_347 : decode cL_law 347 = .ok (.iload 5, 2) := by decide +kernel
theorem dL_law_349 : decode cL_law 349 = .ok (.invokestatic 131, 3) := by decide +kernel
theorem dL_law_352 : decode cL_law 352 = .ok (.lload 16, 2) := by decide +kernel
theorem dL_law_354 : decode cL_law 354 = .ok (.lcmp, 1) := by decide +kernel
theorem dL_law_355 : decode cL_law 355 = .ok (.ifCond .ne 17, 3) := by decide +kernel
theorem dL_law_358 : decode cL_law 358 = .ok (.aload_n 1, 1) := by decide +kernel
theorem dL_law_359 : decode cL_law 359 = .ok (.bipush 10, 2) := by decide +kernel
theorem dL_law_361 : decode cL_law 361 = .ok (.iload 9, 2) := by decide +kernel
theorem dL_law_363 : decode cL_law 363 = .ok (.iconst 0, 1) := by decide +kernel
theorem dL_law_364 : decode cL_law 364 = .ok (.iconst 0, 1) := by decide +kernel
theorem dL_law_365 : decode cL_law 365 = .ok (.iconst 0, 1) := by decide +kernel
theorem dL_law_366 : decode cL_law 366 = .ok (.invokestatic 107, 3) := by decide +kernel
theorem dL_law_369 : decode cL_law 369 = .ok (.ifCond .eq 5, 3) := by decide +kernel
theorem dL_law_372 : decode cL_law 372 = .ok (.iconst 0, 1) := by decide +kernel
theorem dL_law_373 : decode cL_law 373 = .ok (.ireturn, 1) := by decide +kernel
theorem dL_law_374 : decode cL_law 374 = .ok (.goto 839, 3) := by decide +kernel
theorem dL_law_377 : decode cL_law 377 = .ok (.iload 11, 2) := by decide +kernel
theorem dL_law_379 : decode cL_law 379 = .ok (.bipush 6, 2) := by decide +kernel
theorem dL_law_381 : decode cL_law 381 = .ok (.if_icmp .ne 58, 3) := by decide +kernel
theorem dL_law_384 : decode cL_law 384 = .ok (.aload_n 1, 1) := by decide +kernel
theorem dL_law_385 : decode cL_law 385 = .ok (.invokestatic 135, 3) := by decide +kernel
theorem dL_law_388 : decode cL_law 388 = .ok (.istore 16, 2) := by decide +kernel
theorem dL_law_390 : decode cL_law 390 = .ok (.aload_n 1, 1) := by decide +kernel
theorem dL_law_391 : decode cL_law 391 = .ok (.bipush 9, 2) := by decide +kernel
theorem dL_law_393 : decode cL_law 393 = .ok (.iload 9, 2) := by decide +kernel
theorem dL_law_395 : decode cL_law 395 = .ok (.iconst 0, 1) := by decide +kernel
theorem dL_law_396 : decode cL_law 396 = .ok (.iconst 0, 1) := by decide +kernel
theorem dL_law_397 : decode cL_law 397 = .ok (.iconst 0, 1) := by decide +kernel
theorem dL_law_398 : decode cL_law 398 = .ok (.invokestatic 107, 3) := by decide +kernel
theorem dL_law_401 : decode cL_law 401 = .ok (.istore 15, 2) := by decide +kernel
theorem dL_law_403 : decode cL_law 403 = .ok (.iload 15, 2) := by decide +kernel
theorem dL_law_405 : decode cL_law 405 = .ok (.ifCond .lt 31, 3) := by decide +kernel
theorem dL_law_408 : decode cL_law 408 = .ok (.aload_n 1, 1) := by decide +kernel
theorem dL_law_409 : decode cL_law 409 = .ok (.invokestatic 135, 3) := by decide +kernel
theorem dL_law_412 : decode cL_law 412 = .ok (.iload 16, 2) := by decide +kernel
theorem dL_law_414 : decode cL_law 414 = .ok (.iload 15, 2) := by decide +kernel
theorem dL_law_416 : decode cL_law 416 = .ok (.iadd, 1) := by decide +kernel
theorem dL_law_417 : decode cL_law 417 = .ok (.if_icmp .ne 17, 3) := by decide +kernel
theorem dL_law_420 : decode cL_law 420 = .ok (.aload_n 1, 1) := by decide +kernel
theorem dL_law_421 : decode cL_law 421 = .ok (.bipush 10, 2) := by decide +kernel
theorem dL_law_423 : decode cL_law 423 = .ok (.iload 9, 2) := by decide +kernel
theorem dL_law_425 : decode cL_law 425 = .ok (.iconst 0, 1) := by decide +kernel
theorem dL_law_426 : decode cL_law 426 = .ok (.iconst 0, 1) := by decide +kernel
theorem dL_law_427 : decode cL_law 427 = .ok (.iconst 0, 1) := by decide +kernel
theorem dL_law_428 : decode cL_law 428 = .ok (.invokestatic 107, 3) := by decide +kernel
theorem dL_law_431 : decode cL_law 431 = .ok (.ifCond .eq 5, 3) := by decide +kernel
theorem dL_law_434 : decode cL_law 434 = .ok (.iconst 0, 1) := by decide +kernel
theorem dL_law_435 : decode cL_law 435 = .ok (.ireturn, 1) := by decide +kernel
theorem dL_law_436 : decode cL_law 436 = .ok (.goto 777, 3) := by decide +kernel
theorem dL_law_439 : decode cL_law 439 = .ok (.iload 11, 2) := by decide +kernel
theorem dL_law_441 : decode cL_law 441 = .ok (.bipush 7, 2) := by decide +kernel
theorem dL_law_443 : decode cL_law 443 = .ok (.if_icmp .ne 38, 3) := by decide +kernel
theorem dL_law_446 : decode cL_law 446 = .ok (.aload_n 1, 1) := by decide +kernel
theorem dL_law_447 : decode cL_law 447 = .ok (.iconst 3, 1) := by decide +kernel
theorem dL_law_448 : decode cL_law 448 = .ok (.iload 9, 2) := by decide +kernel
theorem dL_law_450 : decode cL_law 450 = .ok (.iload 8, 2) := by decide +kernel
theorem dL_law_452 : decode cL_law 452 = .ok (.bipush 10, 2) := by decide +kernel
theorem dL_law_454 : decode cL_law 454 = .ok (.ishr, 1) := by decide +kernel
theorem dL_law_455 : decode cL_law 455 = .ok (.sipush 400, 3) := by decide +kernel
theorem dL_law_458 : decode cL_law 458 = .ok (.invokestatic 128, 3) := by decide +kernel
theorem dL_law_461 : decode cL_law 461 = .ok (.iload 8, 2) := by decide +kernel
theorem dL_law_463 : decode cL_law 463 = .ok (.bipush 14, 2) := by decide +kernel
theorem dL_law_465 : decode cL_law 465 = .ok (.ishr, 1) := by decide +kernel
theorem dL_law_466 : decode cL_law 466 = .ok (.sipush 1001, 3) := by decide +kernel
theorem dL_law_469 : decode cL_law 469 = .ok (.invokestatic 128, 3) := by decide +kernel
theorem dL_law_472 : decode cL_law 472 = .ok (.iconst 0, 1) := by decide +kernel
theorem dL_law_473 : decode cL_law 473 = .ok (.invokestatic 107, 3) := by decide +kernel
theorem dL_law_476 : decode cL_law 476 = .ok (.istore 15, 2) := by decide +kernel
theorem dL_law_478 : decode cL_law 478 = .ok (.goto 735, 3) := by decide +kernel
theorem dL_law_481 : decode cL_law 481 = .ok (.iload 11, 2) := by decide +kernel
theorem dL_law_483 : decode cL_law 483 = .ok (.bipush 8, 2) := by decide +kernel
theorem dL_law_485 : decode cL_law 485 = .ok (.if_icmp .ne 28, 3) := by decide +kernel
theorem dL_law_488 : decode cL_law 488 = .ok (.aload_n 1, 1) := by decide +kernel
theorem dL_law_489 : decode cL_law 489 = .ok (.iconst 4, 1) := by decide +kernel
theorem dL_law_490 : decode cL_law 490 = .ok (.iload 9, 2) := by decide +kernel
theorem dL_law_492 : decode cL_law 492 = .ok (.iload 8, 2) := by decide +kernel
theorem dL_law_494 : decode cL_law 494 = .ok (.bipush 10, 2) := by decide +kernel
theorem dL_law_496 : decode cL_law 496 = .ok (.ishr, 1) := by decide +kernel
theorem dL_law_497 : decode cL_law 497 = .ok (.sipush 1001, 3) := by decide +kernel
theorem dL_law_500 : decode cL_law 500 = .ok (.invokestatic 128, 3) := by decide +kernel
theorem dL_law_503 : decode cL_law 503 = .ok (.iconst 0, 1) := by decide +kernel
theorem dL_law_504 : decode cL_law 504 = .ok (.iconst 0, 1) := by decide +kernel
theorem dL_law_505 : decode cL_law 505 = .ok (.invokestatic 107, 3) := by decide +kernel
theorem dL_law_508 : decode cL_law 508 = .ok (.istore 15, 2) := by decide +kernel
theorem dL_law_510 : decode cL_law 510 = .ok (.goto 703, 3) := by decide +kernel
theorem dL_law_513 : decode cL_law 513 = .ok (.iload 11, 2) := by decide +kernel
theorem dL_law_515 : decode cL_law 515 = .ok (.bipush 9, 2) := by decide +kernel
theorem dL_law_517 : decode cL_law 517 = .ok (.if_icmp .ne 51, 3) := by decide +kernel
theorem dL_law_520 : decode cL_law 520 = .ok (.aload_n 1, 1) := by decide +kernel
theorem dL_law_521 : decode cL_law 521 = .ok (.bipush 14, 2) := by decide +kernel
theorem dL_law_523 : decode cL_law 523 = .ok (.iload 10, 2) := by decide +kernel
theorem dL_law_525 : decode cL_law 525 = .ok (.iload 8, 2) := by decide +kernel
theorem dL_law_527 : decode cL_law 527 = .ok (.bipush 12, 2) := by decide +kernel
theorem dL_law_529 : decode cL_law 529 = .ok (.ishr, 1) := by decide +kernel
theorem dL_law_530 : decode cL_law 530 = .ok (.iload 6, 2) := by decide +kernel
theorem dL_law_532 : decode cL_law 532 = .ok (.iconst 1, 1) := by decide +kernel
theorem dL_law_533 : decode cL_law 533 = .ok (.iadd, 1) := by decide +kernel
theorem dL_law_534 : decode cL_law 534 = .ok (.invokestatic 128, 3) := by decide +kernel
theorem dL_law_537 : decode cL_law 537 = .ok (.iconst 0, 1) := by decide +kernel
theorem dL_law_538 : decode cL_law 538 = .ok (.iconst 0, 1) := by decide +kernel
theorem dL_law_539 : decode cL_law 539 = .ok (.invokestatic 107, 3) := by decide +kernel
theorem dL_law_542 : decode cL_law 542 = .ok (.istore 15, 2) := by decide +kernel
theorem dL_law_544 : decode cL_law 544 = .ok (.iload 15, 2) := by decide +kernel
theorem dL_law_546 : decode cL_law 546 = .ok (.ifCond .lt 667, 3) := by decide +kernel
theorem dL_law_549 : decode cL_law 549 = .ok (.aload_n 3, 1) := by decide +kernel
theorem dL_law_550 : decode cL_law 550 = .ok (.iload 10, 2) := by decide +kernel
theorem dL_law_552 : decode cL_law 552 = .ok (.iload 8, 2) := by decide +kernel
theorem dL_law_554 : decode cL_law 554 = .ok (.bipush 12, 2) := by decide +kernel
theorem dL_law_556 : decode cL_law 556 = .ok (.ishr, 1) := by decide +kernel
theorem dL_law_557 : decode cL_law 557 = .ok (.iload 6, 2) := by decide +kernel
theorem dL_law_559 : decode cL_law 559 = .ok (.iconst 1, 1) := by decide +kernel
theorem dL_law_560 : decode cL_law 560 = .ok (.iadd, 1) := by decide +kernel
theorem dL_law_561 : decode cL_law 561 = .ok (.invokestatic 128, 3) := by decide +kernel
theorem dL_law_564 : decode cL_law 564 = .ok (.iastore, 1) := by decide +kernel
theorem dL_law_565 : decode cL_law 565 = .ok (.goto 648, 3) := by decide +kernel
theorem dL_law_568 : decode cL_law 568 = .ok (.iload 11, 2) := by decide +kernel
theorem dL_law_570 : decode cL_law 570 = .ok (.bipush 10, 2) := by decide +kernel
theorem dL_law_572 : decode cL_law 572 = .ok (.if_icmp .ne 56, 3) := by decide +kernel
theorem dL_law_575 : decode cL_law 575 = .ok (.aload_n 1, 1) := by decide +kernel
theorem dL_law_576 : decode cL_law 576 = .ok (.iload 5, 2) := by decide +kernel
theorem dL_law_578 : decode cL_law 578 = .ok (.invokestatic 139, 3) := by decide +kernel
theorem dL_law_581 : decode cL_law 581 = .ok (.istore 16, 2) := by decide +kernel
theorem dL_law_583 : decode cL_law 583 = .ok (.aload_n 1, 1) := by decide +kernel
theorem dL_law_584 : decode cL_law 584 = .ok (.bipush 20, 2) := by decide +kernel
theorem dL_law_586 : decode cL_law 586 = .ok (.iload 8, 2) := by decide +kernel
theorem dL_law_588 : decode cL_law 588 = .ok (.bipush 12, 2) := by decide +kernel
theorem dL_law_590 : decode cL_law 590 = .ok (.ishr, 1) := by decide +kernel
theorem dL_law_591 : decode cL_law 591 = .ok (.bipush 30, 2) := by decide +kernel
theorem dL_law_593 : decode cL_law 593 = .ok (.invokestatic 128, 3) := by decide +kernel
theorem dL_law_596 : decode cL_law 596 = .ok (.iconst 0, 1) := by decide +kernel
theorem dL_law_597 : decode cL_law 597 = .ok (.iconst 0, 1) := by decide +kernel
theorem dL_law_598 : decode cL_law 598 = .ok (.iconst 0, 1) := by decide +kernel
theorem dL_law_599 : decode cL_law 599 = .ok (.invokestatic 107, 3) := by decide +kernel
theorem dL_law_602 : decode cL_law 602 = .ok (.istore 15, 2) := by decide +kernel
theorem dL_law_604 : decode cL_law 604 = .ok (.iload 15, 2) := by decide +kernel
theorem dL_law_606 : decode cL_law 606 = .ok (.ifCond .lt 19, 3) := by decide +kernel
theorem dL_law_609 : decode cL_law 609 = .ok (.aload_n 1, 1) := by decide +kernel
theorem dL_law_610 : decode cL_law 610 = .ok (.iload 5, 2) := by decide +kernel
theorem dL_law_612 : decode cL_law 612 = .ok (.invokestatic 139, 3) := by decide +kernel
theorem dL_law_615 : decode cL_law 615 = .ok (.iload 16, 2) := by decide +kernel
theorem dL_law_617 : decode cL_law 617 = .ok (.iload 15, 2) := by decide +kernel
theorem dL_law_619 : decode cL_law 619 = .ok (.iadd, 1) := by decide +kernel
theorem dL_law_620 : decode cL_law 620 = .ok (.if_icmp .eq 5, 3) := by decide +kernel
theorem dL_law_623 : decode cL_law 623 = .ok (.iconst 0, 1) := by decide +kernel
theorem dL_law_624 : decode cL_law 624 = .ok (.ireturn, 1) := by decide +kernel
theorem dL_law_625 : decode cL_law 625 = .ok (.goto 588, 3) := by decide +kernel
theorem dL_law_628 : decode cL_law 628 = .ok (.iload 11, 2) := by decide +kernel
theorem dL_law_630 : decode cL_law 630 = .ok (.bipush 24, 2) := by decide +kernel
theorem dL_law_632 : decode cL_law 632 = .ok (.if_icmp .ge 279, 3) := by decide +kernel
theorem dL_law_635 : decode cL_law 635 = .ok (.aload_n 1, 1) := by decide +kernel
theorem dL_law_636 : decode cL_law 636 = .ok (.iconst 1, 1) := by decide +kernel
theorem dL_law_637 : decode cL_law 637 = .ok (.iload 12, 2) := by decide +kernel
theorem dL_law_639 : decode cL_law 639 = .ok (.iconst 0, 1) := by decide +kernel
theorem dL_law_640 : decode cL_law 640 = .ok (.iconst 0, 1) := by decide +kernel
theorem dL_law_641 : decode cL_law 641 = .ok (.iconst 0, 1) := by decide +kernel
theorem dL_law_642 : decode cL_law 642 = .ok (.invokestatic 107, 3) := by decide +kernel
theorem dL_law_645 : decode cL_law 645 = .ok (.istore 16, 2) := by decide +kernel
theorem dL_law_647 : decode cL_law 647 = .ok (.iload 16, 2) := by decide +kernel
theorem dL_law_649 : decode cL_law 649 = .ok (.ifCond .lt 10, 3) := by decide +kernel
theorem dL_law_652 : decode cL_law 652 = .ok (.iload 10, 2) := by decide +kernel
theorem dL_law_654 : decode cL_law 654 = .ok (.iload 5, 2) := by decide +kernel
theorem dL_law_656 : decode cL_law 656 = .ok (.if_icmp .ne 7, 3) := by decide +kernel
theorem dL_law_659 : decode cL_law 659 = .ok (.iconst (-1), 1) := by decide +kernel
theorem dL_law_660 : decode cL_law 660 = .ok (.goto 15, 3) := by decide +kernel
theorem dL_law_663 : decode cL_law 663 = .ok (.aload_n 1, 1) := by decide +kernel
theorem dL_law_664 : decode cL_law 664 = .ok (.bipush 16, 2) := by decide +kernel
theorem dL_law_666 : decode cL_law 666 = .ok (.iload 10, 2) := by decide +kernel
theorem dL_law_668 : decode cL_law 668 = .ok (.iload 16, 2) := by decide +kernel
theorem dL_law_670 : decode cL_law 670 = .ok (.iconst 0, 1) := by decide +kernel
theorem dL_law_671 : decode cL_law 671 = .ok (.iconst 0, 1) := by decide +kernel
theorem dL_law_672 : decode cL_law 672 = .ok (.invokestatic 107, 3) := by decide +kernel
theorem dL_law_675 : decode cL_law 675 = .ok (.istore 17, 2) := by decide +kernel
theorem dL_law_677 : decode cL_law 677 = .ok (.iload 10, 2) := by decide +kernel
theorem dL_law_679 : decode cL_law 679 = .ok (.iload 5, 2) := by decide +kernel
theorem dL_law_681 : decode cL_law 681 = .ok (.if_icmp .ne 7, 3) := by decide +kernel
theorem dL_law_684 : decode cL_law 684 = .ok (.iconst 0, 1) := by decide +kernel
theorem dL_law_685 : decode cL_law 685 = .ok (.goto 14, 3) := by decide +kernel
theorem dL_law_688 : decode cL_law 688 = .ok (.aload_n 1, 1) := by decide +kernel
theorem dL_law_689 : decode cL_law 689 = .ok (.bipush 15, 2) := by decide +kernel
theorem dL_law_691 : decode cL_law 691 = .ok (.iload 10, 2) := by decide +kernel
theorem dL_law_693 : decode cL_law 693 = .ok (.iconst 0, 1) := by decide +kernel
theorem dL_law_694 : decode cL_law 694 = .ok (.iconst 0, 1) := by decide +kernel
theorem dL_law_695 : decode cL_law 695 = .ok (.iconst 0, 1) := by decide +kernel
theorem dL_law_696 : decode cL_law 696 = .ok (.invokestatic 107, 3) := by decide +kernel
theorem dL_law_699 : decode cL_law 699 = .ok (.istore 18, 2) := by decide +kernel
theorem dL_law_701 : decode cL_law 701 = .ok (.aload_n 1, 1) := by decide +kernel
theorem dL_law_702 : decode cL_law 702 = .ok (.invokevirtual 113, 3) := by decide +kernel
theorem dL_law_705 : decode cL_law 705 = .ok (.istore 19, 2) := by decide +kernel
theorem dL_law_707 : decode cL_law 707 = .ok (.aload_n 1, 1) := by decide +kernel
theorem dL_law_708 : decode cL_law 708 = .ok (.invokestatic 135, 3) := by decide +kernel
theorem dL_law_711 : decode cL_law 711 = .ok (.istore 20, 2) := by decide +kernel
theorem dL_law_713 : decode cL_law 713 = .ok (.aload_n 1, 1) := by decide +kernel
theorem dL_law_714 : decode cL_law 714 = .ok (.bipush 19, 2) := by decide +kernel
theorem dL_law_716 : decode cL_law 716 = .ok (.iload 10, 2) := by decide +kernel
theorem dL_law_718 : decode cL_law 718 = .ok (.iload 12, 2) := by decide +kernel
theorem dL_law_720 : decode cL_law 720 = .ok (.iload 8, 2) := by decide +kernel
theorem dL_law_722 : decode cL_law 722 = .ok (.bipush 20, 2) := by decide +kernel
theorem dL_law_724 : decode cL_law 724 = .ok (.ishr, 1) := by decide +kernel
theorem dL_law_725 : decode cL_law 725 = .ok (.bipush 101, 2) := by decide +kernel
theorem dL_law_727 : decode cL_law 727 = .ok (.invokestatic 128, 3) := by decide +kernel
theorem dL_law_730 : decode cL_law 730 = .ok (.iconst 0, 1) := by decide +kernel
theorem dL_law_731 : decode cL_law 731 = .ok (.invokestatic 107, 3) := by decide +kernel
theorem dL_law_734 : decode cL_law 734 = .ok (.istore 15, 2) := by decide +kernel
theorem dL_law_736 : decode cL_law 736 = .ok (.iload 15, 2) := by decide +kernel
theorem dL_law_738 : decode cL_law 738 = .ok (.ifCond .lt 170, 3) := by decide +kernel
theorem dL_law_741 : decode cL_law 741 = .ok (.aload_n 1, 1) := by decide +kernel
theorem dL_law_742 : decode cL_law 742 = .ok (.invokevirtual 113, 3) := by decide +kernel
theorem dL_law_745 : decode cL_law 745 = .ok (.iload 19, 2) := by decide +kernel
theorem dL_law_747 : decode cL_law 747 = .ok (.iconst 1, 1) := by decide +kernel
theorem dL_law_748 : decode cL_law 748 = .ok (.iadd, 1) := by decide +kernel
theorem dL_law_749 : decode cL_law 749 = .ok (.if_icmp .ne 157, 3) := by decide +kernel
theorem dL_law_752 : decode cL_law 752 = .ok (.iload 15, 2) := by decide +kernel
theorem dL_law_754 : decode cL_law 754 = .ok (.bipush 110, 2) := by decide +kernel
theorem dL_law_756 : decode cL_law 756 = .ok (.if_icmp .ne 7, 3) := by decide +kernel
theorem dL_law_759 : decode cL_law 759 = .ok (.iconst 1, 1) := by decide +kernel
theorem dL_law_760 : decode cL_law 760 = .ok (.goto 4, 3) := by decide +kernel
theorem dL_law_763 : decode cL_law 763 = .ok (.iconst 0, 1) := by decide +kernel
theorem dL_law_764 : decode cL_law 764 = .ok (.iload 16, 2) := by decide +kernel
theorem dL_law_766 : decode cL_law 766 = .ok (.ifCond .ge 7, 3) := by decide +kernel
theorem dL_law_769 : decode cL_law 769 = .ok (.iconst 1, 1) := by decide +kernel
theorem dL_law_770 : decode cL_law 770 = .ok (.goto 4, 3) := by decide +kernel
theorem dL_law_773 : decode cL_law 773 = .ok (.iconst 0, 1) := by decide +kernel
theorem dL_law_774 : decode cL_law 774 = .ok (.if_icmp .ne 132, 3) := by decide +kernel
theorem dL_law_777 : decode cL_law 777 = .ok (.iload 15, 2) := by decide +kernel
theorem dL_law_779 : decode cL_law 779 = .ok (.bipush 108, 2) := by decide +kernel
theorem dL_law_781 : decode cL_law 781 = .ok (.if_icmp .ne 7, 3) := by decide +kernel
theorem dL_law_784 : decode cL_law 784 = .ok (.iconst 1, 1) := by decide +kernel
theorem dL_law_785 : decode cL_law 785 = .ok (.goto 4, 3) := by decide +kernel
theorem dL_law_788 : decode cL_law 788 = .ok (.iconst 0, 1) := by decide +kernel
theorem dL_law_789 : decode cL_law 789 = .ok (.iload 16, 2) := by decide +kernel
theorem dL_law_791 : decode cL_law 791 = .ok (.ifCond .lt 12, 3) := by decide +kernel
theorem dL_law_794 : decode cL_law 794 = .ok (.iload 17, 2) := by decide +kernel
theorem dL_law_796 : decode cL_law 796 = .ok (.ifCond .eq 7, 3) := by decide +kernel
theorem dL_law_799 : decode cL_law 799 = .ok (.iconst 1, 1) := by decide +kernel
theorem dL_law_800 : decode cL_law 800 = .ok (.goto 4, 3) := by decide +kernel
theorem dL_law_803 : decode cL_law 803 = .ok (.iconst 0, 1) := by decide +kernel
theorem dL_law_804 : decode cL_law 804 = .ok (.if_icmp .ne 102, 3) := by decide +kernel
theorem dL_law_807 : decode cL_law 807 = .ok (.iload 15, 2) := by decide +kernel
theorem dL_law_809 : decode cL_law 809 = .ok (.bipush 110, 2) := by decide +kernel
theorem dL_law_811 : decode cL_law 811 = .ok (.if_icmp .eq 10, 3) := by decide +kernel
theorem dL_law_814 : decode cL_law 814 = .ok (.iload 15, 2) := by decide +kernel
theorem dL_law_816 : decode cL_law 816 = .ok (.bipush 108, 2) := by decide +kernel
theorem dL_law_818 : decode cL_law 818 = .ok (.if_icmp .ne 19, 3) := by decide +kernel
theorem dL_law_821 : decode cL_law 821 = .ok (.aload_n 1, 1) := by decide +kernel
theorem dL_law_822 : decode cL_law 822 = .ok (.bipush 15, 2) := by decide +kernel
theorem dL_law_824 : decode cL_law 824 = .ok (.iload 10, 2) := by decide +kernel
theorem dL_law_826 : decode cL_law 826 = .ok (.iconst 0, 1) := by decide +kernel
theorem dL_law_827 : decode cL_law 827 = .ok (.iconst 0, 1) := by decide +kernel
theorem dL_law_828 : decode cL_law 828 = .ok (.iconst 0, 1) := by decide +kernel
theorem dL_law_829 : decode cL_law 829 = .ok (.invokestatic 107, 3) := by decide +kernel
theorem dL_law_832 : decode cL_law 832 = .ok (.iload 18, 2) := by decide +kernel
theorem dL_law_834 : decode cL_law 834 = .ok (.if_icmp .ne 72, 3) := by decide +kernel
theorem dL_law_837 : decode cL_law 837 = .ok (.iload 15, 2) := by decide +kernel
theorem dL_law_839 : decode cL_law 839 = .ok (.bipush 115, 2) := by decide +kernel
theorem dL_law_841 : decode cL_law 841 = .ok (.if_icmp .eq 10, 3) := by decide +kernel
theorem dL_law_844 : decode cL_law 844 = .ok (.iload 15, 2) := by decide +kernel
theorem dL_law_846 : decode cL_law 846 = .ok (.bipush 99, 2) := by decide +kernel
theorem dL_law_848 : decode cL_law 848 = .ok (.if_icmp .ne 19, 3) := by decide +kernel
theorem dL_law_851 : decode cL_law 851 = .ok (.aload_n 1, 1) := by decide +kernel
theorem dL_law_852 : decode cL_law 852 = .ok (.bipush 15, 2) := by decide +kernel
theorem dL_law_854 : decode cL_law 854 = .ok (.iload 10, 2) := by decide +kernel
theorem dL_law_856 : decode cL_law 856 = .ok (.iconst 0, 1) := by decide +kernel
theorem dL_law_857 : decode cL_law 857 = .ok (.iconst 0, 1) := by decide +kernel
theorem dL_law_858 : decode cL_law 858 = .ok (.iconst 0, 1) := by decide +kernel
theorem dL_law_859 : decode cL_law 859 = .ok (.invokestatic 107, 3) := by decide +kernel
theorem dL_law_862 : decode cL_law 862 = .ok (.iload 18, 2) := by decide +kernel
theorem dL_law_864 : decode cL_law 864 = .ok (.if_icmp .ge 42, 3) := by decide +kernel
theorem dL_law_867 : decode cL_law 867 = .ok (.iload 15, 2) := by decide +kernel
theorem dL_law_869 : decode cL_law 869 = .ok (.bipush 102, 2) := by decide +kernel
theorem dL_law_871 : decode cL_law 871 = .ok (.if_icmp .ne 19, 3) := by decide +kernel
theorem dL_law_874 : decode cL_law 874 = .ok (.aload_n 1, 1) := by decide +kernel
theorem dL_law_875 : decode cL_law 875 = .ok (.bipush 15, 2) := by decide +kernel
theorem dL_law_877 : decode cL_law 877 = .ok (.iload 10, 2) := by decide +kernel
theorem dL_law_879 : decode cL_law 879 = .ok (.iconst 0, 1) := by decide +kernel
theorem dL_law_880 : decode cL_law 880 = .ok (.iconst 0, 1) := by decide +kernel
theorem dL_law_881 : decode cL_law 881 = .ok (.iconst 0, 1) := by decide +kernel
theorem dL_law_882 : decode cL_law 882 = .ok (.invokestatic 107, 3) := by decide +kernel
theorem dL_law_885 : decode cL_law 885 = .ok (.iload 18, 2) := by decide +kernel
theorem dL_law_887 : decode cL_law 887 = .ok (.if_icmp .lt 19, 3) := by decide +kernel
theorem dL_law_890 : decode cL_law 890 = .ok (.iload 15, 2) := by decide +kernel
theorem dL_law_892 : decode cL_law 892 = .ok (.bipush 102, 2) := by decide +kernel
theorem dL_law_894 : decode cL_law 894 = .ok (.if_icmp .eq 14, 3) := by decide +kernel
theorem dL_law_897 : decode cL_law 897 = .ok (.aload_n 1, 1) := by decide +kernel
theorem dL_law_898 : decode cL_law 898 = .ok (.invokestatic 135, 3) := by decide +kernel
theorem dL_law_901 : decode cL_law 901 = .ok (.iload 20, 2) := by decide +kernel
theorem dL_law_903 : decode cL_law 903 = .ok (.if_icmp .eq 5, 3) := by decide +kernel
theorem dL_law_906 : decode cL_law 906 = .ok (.iconst 0, 1) := by decide +kernel
theorem dL_law_907 : decode cL_law 907 = .ok (.ireturn, 1) := by decide +kernel
theorem dL_law_908 : decode cL_law 908 = .ok (.goto 305, 3) := by decide +kernel
theorem dL_law_911 : decode cL_law 911 = .ok (.iload 11, 2) := by decide +kernel
theorem dL_law_913 : decode cL_law 913 = .ok (.bipush 24, 2) := by decide +kernel
theorem dL_law_915 : decode cL_law 915 = .ok (.if_icmp .ne 66, 3) := by decide +kernel
theorem dL_law_918 : decode cL_law 918 = .ok (.iconst 1, 1) := by decide +kernel
theorem dL_law_919 : decode cL_law 919 = .ok (.iload 8, 2) := by decide +kernel
theorem dL_law_921 : decode cL_law 921 = .ok (.bipush 10, 2) := by decide +kernel
theorem dL_law_923 : decode cL_law 923 = .ok (.ishr, 1) := by decide +kernel
theorem dL_law_924 : decode cL_law 924 = .ok (.bipush 100, 2) := by decide +kernel
theorem dL_law_926 : decode cL_law 926 = .ok (.invokestatic 128, 3) := by decide +kernel
theorem dL_law_929 : decode cL_law 929 = .ok (.iadd, 1) := by decide +kernel
theorem dL_law_930 : decode cL_law 930 = .ok (.istore 16, 2) := by decide +kernel
theorem dL_law_932 : decode cL_law 932 = .ok (.aload_n 1, 1) := by decide +kernel
theorem dL_law_933 : decode cL_law 933 = .ok (.bipush 12, 2) := by decide +kernel
theorem dL_law_935 : decode cL_law 935 = .ok (.iconst 1, 1) := by decide +kernel
theorem dL_law_936 : decode cL_law 936 = .ok (.iload 8, 2) := by decide +kernel
theorem dL_law_938 : decode cL_law 938 = .ok (.iconst 5, 1) := by decide +kernel
theorem dL_law_939 : decode cL_law 939 = .ok (.ishr, 1) := by decide +kernel
theorem dL_law_940 : decode cL_law 940 = .ok (.bipush 20, 2) := by decide +kernel
theorem dL_law_942 : decode cL_law 942 = .ok (.invokestatic 128, 3) := by decide +kernel
theorem dL_law_945 : decode cL_law 945 = .ok (.iadd, 1) := by decide +kernel
theorem dL_law_946 : decode cL_law 946 = .ok (.iload 16, 2) := by decide +kernel
theorem dL_law_948 : decode cL_law 948 = .ok (.iload 8, 2) := by decide +kernel
theorem dL_law_950 : decode cL_law 950 = .ok (.bipush 17, 2) := by decide +kernel
theorem dL_law_952 : decode cL_law 952 = .ok (.ishr, 1) := by decide +kernel
theorem dL_law_953 : decode cL_law 953 = .ok (.bipush 100, 2) := by decide +kernel
theorem dL_law_955 : decode cL_law 955 = .ok (.invokestatic 128, 3) := by decide +kernel
theorem dL_law_958 : decode cL_law 958 = .ok (.iconst 0, 1) := by decide +kernel
theorem dL_law_959 : decode cL_law 959 = .ok (.invokestatic 107, 3) := by decide +kernel
theorem dL_law_962 : decode cL_law 962 = .ok (.istore 15, 2) := by decide +kernel
theorem dL_law_964 : decode cL_law 964 = .ok (.iload 15, 2) := by decide +kernel
theorem dL_law_966 : decode cL_law 966 = .ok (.ifCond .lt 12, 3) := by decide +kernel
theorem dL_law_969 : decode cL_law 969 = .ok (.aload_n 2, 1) := by decide +kernel
theorem dL_law_970 : decode cL_law 970 = .ok (.iload 15, 2) := by decide +kernel
theorem dL_law_972 : decode cL_law 972 = .ok (.iload 16, 2) := by decide +kernel
theorem dL_law_974 : decode cL_law 974 = .ok (.iastore, 1) := by decide +kernel
theorem dL_law_975 : decode cL_law 975 = .ok (.iinc 6 1, 3) := by decide +kernel
theorem dL_law_978 : decode cL_law 978 = .ok (.goto 235, 3) := by decide +kernel
theorem dL_law_981 : decode cL_law 981 = .ok (.iload 11, 2) := by decide +kernel
theorem dL_law_983 : decode cL_law 983 = .ok (.bipush 25, 2) := by decide +kernel
theorem dL_law_985 : decode cL_law 985 = .ok (.if_icmp .ne 56, 3) := by decide +kernel
theorem dL_law_988 : decode cL_law 988 = .ok (.iload 8, 2) := by decide +kernel
theorem dL_law_990 : decode cL_law 990 = .ok (.iconst 5, 1) := by decide +kernel
theorem dL_law_991 : decode cL_law 991 = .ok (.ishr, 1) := by decide +kernel
theorem dL_law_992 : decode cL_law 992 = .ok (.iload 6, 2) := by decide +kernel
theorem dL_law_994 : decode cL_law 994 = .ok (.iload 7, 2) := by decide +kernel
theorem dL_law_996 : decode cL_law 996 = .ok (.iconst 4, 1) := by decide +kernel
theorem dL_law_997 : decode cL_law 997 = .ok (.if_icmp .ge 7, 3) := by decide +kernel
theorem dL_law_1000 : decode cL_law 1000 = .ok (.iconst 0, 1) := by decide +kernel
theorem dL_law_1001 : decode cL_law 1001 = .ok (.goto 4, 3) := by decide +kernel
theorem dL_law_1004 : decode cL_law 1004 = .ok (.iconst 1, 1) := by decide +kernel
theorem dL_law_1005 : decode cL_law 1005 = .ok (.iadd, 1) := by decide +kernel
theorem dL_law_1006 : decode cL_law 1006 = .ok (.invokestatic 128, 3) := by decide +kernel
theorem dL_law_1009 : decode cL_law 1009 = .ok (.istore 16, 2) := by decide +kernel
theorem dL_law_1011 : decode cL_law 1011 = .ok (.aload_n 1, 1) := by decide +kernel
theorem dL_law_1012 : decode cL_law 1012 = .ok (.bipush 13, 2) := by decide +kernel
theorem dL_law_1014 : decode cL_law 1014 = .ok (.iload 16, 2) := by decide +kernel
theorem dL_law_1016 : decode cL_law 1016 = .ok (.iconst 0, 1) := by decide +kernel
theorem dL_law_1017 : decode cL_law 1017 = .ok (.iconst 0, 1) := by decide +kernel
theorem dL_law_1018 : decode cL_law 1018 = .ok (.iconst 0, 1) := by decide +kernel
theorem dL_law_1019 : decode cL_law 1019 = .ok (.invokestatic 107, 3) := by decide +kernel
theorem dL_law_1022 : decode cL_law 1022 = .ok (.istore 15, 2) := by decide +kernel
theorem dL_law_1024 : decode cL_law 1024 = .ok (.iload 15, 2) := by decide +kernel
theorem dL_law_1026 : decode cL_law 1026 = .ok (.ifCond .lt 12, 3) := by decide +kernel
theorem dL_law_1029 : decode cL_law 1029 = .ok (.aload_n 3, 1) := by decide +kernel
theorem dL_law_1030 : decode cL_law 1030 = .ok (.iload 15, 2) := by decide +kernel
theorem dL_law_1032 : decode cL_law 1032 = .ok (.iload 16, 2) := by decide +kernel
theorem dL_law_1034 : decode cL_law 1034 = .ok (.iastore, 1) := by decide +kernel
theorem dL_law_1035 : decode cL_law 1035 = .ok (.iinc 5 1, 3) := by decide +kernel
theorem dL_law_1038 : decode cL_law 1038 = .ok (.goto 175, 3) := by decide +kernel
theorem dL_law_1041 : decode cL_law 1041 = .ok (.aload_n 1, 1) := by decide +kernel
theorem dL_law_1042 : decode cL_law 1042 = .ok (.bipush 6, 2) := by decide +kernel
theorem dL_law_1044 : decode cL_law 1044 = .ok (.iload 9, 2) := by decide +kernel
theorem dL_law_1046 : decode cL_law 1046 = .ok (.iconst 0, 1) := by decide +kernel
theorem dL_law_1047 : decode cL_law 1047 = .ok (.bipush 100, 2) := by decide +kernel
theorem dL_law_1049 : decode cL_law 1049 = .ok (.bipush 9, 2) := by decide +kernel
theorem dL_law_1051 : decode cL_law 1051 = .ok (.invokestatic 107, 3) := by decide +kernel
theorem dL_law_1054 : decode cL_law 1054 = .ok (.istore 15, 2) := by decide +kernel
theorem dL_law_1056 : decode cL_law 1056 = .ok (.iload 15, 2) := by decide +kernel
theorem dL_law_1058 : decode cL_law 1058 = .ok (.ifCond .lt 155, 3) := by decide +kernel
theorem dL_law_1061 : decode cL_law 1061 = .ok (.aload_n 1, 1) := by decide +kernel
theorem dL_law_1062 : decode cL_law 1062 = .ok (.iload 5, 2) := by decide +kernel
theorem dL_law_1064 : decode cL_law 1064 = .ok (.invokestatic 142, 3) := by decide +kernel
theorem dL_law_1067 : decode cL_law 1067 = .ok (.lstore 16, 2) := by decide +kernel
theorem dL_law_1069 : decode cL_law 1069 = .ok (.aload_n 1, 1) := by decide +kernel
theorem dL_law_1070 : decode cL_law 1070 = .ok (.invokevirtual 113, 3) := by decide +kernel
theorem dL_law_1073 : decode cL_law 1073 = .ok (.istore 18, 2) := by decide +kernel
theorem dL_law_1075 : decode cL_law 1075 = .ok (.iconst 0, 1) := by decide +kernel
theorem dL_law_1076 : decode cL_law 1076 = .ok (.istore 19, 2) := by decide +kernel
theorem dL_law_1078 : decode cL_law 1078 = .ok (.iload 19, 2) := by decide +kernel
theorem dL_law_1080 : decode cL_law 1080 = .ok (.iload 5, 2) := by decide +kernel
theorem dL_law_1082 : decode cL_law 1082 = .ok (.if_icmp .ge 31, 3) := by decide +kernel
theorem dL_law_1085 : decode cL_law 1085 = .ok (.aload_n 1, 1) := by decide +kernel
theorem dL_law_1086 : decode cL_law 1086 = .ok (.bipush 19, 2) := by decide +kernel
theorem dL_law_1088 : decode cL_law 1088 = .ok (.iload 19, 2) := by decide +kernel
theorem dL_law_1090 : decode cL_law 1090 = .ok (.iload 12, 2) := by decide +kernel
theorem dL_law_1092 : decode cL_law 1092 = .ok (.bipush 7, 2) := by decide +kernel
theorem dL_law_1094 : decode cL_law 1094 = .ok (.iconst 0, 1) := by decide +kernel
theorem dL_law_1095 : decode cL_law 1095 = .ok (.invokestatic 107, 3) := by decide +kernel
theorem dL_law_1098 : decode cL_law 1098 = .ok (.istore 20, 2) := by decide +kernel
theorem dL_law_1100 : decode cL_law 1100 = .ok (.iload 20, 2) := by decide +kernel
theorem dL_law_1102 : decode cL_law 1102 = .ok (.ifCond .ge 5, 3) := by decide +kernel
theorem dL_law_1105 : decode cL_law 1105 = .ok (.iconst 0, 1) := by decide +kernel
theorem dL_law_1106 : decode cL_law 1106 = .ok (.ireturn, 1) := by decide +kernel
theorem dL_law_1107 : decode cL_law 1107 = .ok (.iinc 19 1, 3) := by decide +kernel
theorem dL_law_1110 : decode cL_law 1110 = .ok (.goto (-32), 3) := by decide +kernel
theorem dL_law_1113 : decode cL_law 1113 = .ok (.aload_n 1, 1) := by decide +kernel
theorem dL_law_1114 : decode cL_law 1114 = .ok (.iconst 1, 1) := by decide +kernel
theorem dL_law_1115 : decode cL_law 1115 = .ok (.iload 12, 2) := by decide +kernel
theorem dL_law_1117 : decode cL_law 1117 = .ok (.iconst 0, 1) := by decide +kernel
theorem dL_law_1118 : decode cL_law 1118 = .ok (.iconst 0, 1) := by decide +kernel
theorem dL_law_1119 : decode cL_law 1119 = .ok (.iconst 0, 1) := by decide +kernel
theorem dL_law_1120 : decode cL_law 1120 = .ok (.invokestatic 107, 3) := by decide +kernel
theorem dL_law_1123 : decode cL_law 1123 = .ok (.iload 9, 2) := by decide +kernel
theorem dL_law_1125 : decode cL_law 1125 = .ok (.if_icmp .ne 7, 3) := by decide +kernel
theorem dL_law_1128 : decode cL_law 1128 = .ok (.iconst 1, 1) := by decide +kernel
theorem dL_law_1129 : decode cL_law 1129 = .ok (.goto 4, 3) := by decide +kernel
theorem dL_law_1132 : decode cL_law 1132 = .ok (.iconst 0, 1) := by decide +kernel
theorem dL_law_1133 : decode cL_law 1133 = .ok (.istore 19, 2) := by decide +kernel
theorem dL_law_1135 : decode cL_law 1135 = .ok (.aload_n 1, 1) := by decide +kernel
theorem dL_law_1136 : decode cL_law 1136 = .ok (.bipush 10, 2) := by decide +kernel
theorem dL_law_1138 : decode cL_law 1138 = .ok (.iload 9, 2) := by decide +kernel
theorem dL_law_1140 : decode cL_law 1140 = .ok (.iconst 0, 1) := by decide +kernel
theorem dL_law_1141 : decode cL_law 1141 = .ok (.iconst 0, 1) := by decide +kernel
theorem dL_law_1142 : decode cL_law 1142 = .ok (.iconst 0, 1) := by decide +kernel
theorem dL_law_1143 : decode cL_law 1143 = .ok (.invokestatic 107, 3) := by decide +kernel
theorem dL_law_1146 : decode cL_law 1146 = .ok (.iconst 1, 1) := by decide +kernel
theorem dL_law_1147 : decode cL_law 1147 = .ok (.if_icmp .ne 17, 3) := by decide +kernel
theorem dL_law_1150 : decode cL_law 1150 = .ok (.aload_n 1, 1) := by decide +kernel
theorem dL_law_1151 : decode cL_law 1151 = .ok (.bipush 9, 2) := by decide +kernel
theorem dL_law_1153 : decode cL_law 1153 = .ok (.iload 9, 2) := by decide +kernel
theorem dL_law_1155 : decode cL_law 1155 = .ok (.iconst 0, 1) := by decide +kernel
theorem dL_law_1156 : decode cL_law 1156 = .ok (.iconst 0, 1) := by decide +kernel
theorem dL_law_1157 : decode cL_law 1157 = .ok (.iconst 0, 1) := by decide +kernel
theorem dL_law_1158 : decode cL_law 1158 = .ok (.invokestatic 107, 3) := by decide +kernel
theorem dL_law_1161 : decode cL_law 1161 = .ok (.goto 4, 3) := by decide +kernel
theorem dL_law_1164 : decode cL_law 1164 = .ok (.iconst 0, 1) := by decide +kernel
theorem dL_law_1165 : decode cL_law 1165 = .ok (.istore 20, 2) := by decide +kernel
theorem dL_law_1167 : decode cL_law 1167 = .ok (.iload 20, 2) := by decide +kernel
theorem dL_law_1169 : decode cL_law 1169 = .ok (.ifCond .lt 42, 3) := by decide +kernel
theorem dL_law_1172 : decode cL_law 1172 = .ok (.iload 19, 2) := by decide +kernel
theorem dL_law_1174 : decode cL_law 1174 = .ok (.ifCond .eq 15, 3) := by decide +kernel
theorem dL_law_1177 : decode cL_law 1177 = .ok (.aload_n 1, 1) := by decide +kernel
theorem dL_law_1178 : decode cL_law 1178 = .ok (.iload 5, 2) := by decide +kernel
theorem dL_law_1180 : decode cL_law 1180 = .ok (.invokestatic 142, 3) := by decide +kernel
theorem dL_law_1183 : decode cL_law 1183 = .ok (.lload 16, 2) := by decide +kernel
theorem dL_law_1185 : decode cL_law 1185 = .ok (.lcmp, 1) := by decide +kernel
theorem dL_law_1186 : decode cL_law 1186 = .ok (.ifCond .ne 25, 3) := by decide +kernel
theorem dL_law_1189 : decode cL_law 1189 = .ok (.aload_n 1, 1) := by decide +kernel
theorem dL_law_1190 : decode cL_law 1190 = .ok (.invokevirtual 113, 3) := by decide +kernel
theorem dL_law_1193 : decode cL_law 1193 = .ok (.iload 18, 2) := by decide +kernel
theorem dL_law_1195 : decode cL_law 1195 = .ok (.iload 5, 2) := by decide +kernel
theorem dL_law_1197 : decode cL_law 1197 = .ok (.iadd, 1) := by decide +kernel
theorem dL_law_1198 : decode cL_law 1198 = .ok (.if_icmp .ne 13, 3) := by decide +kernel
theorem dL_law_1201 : decode cL_law 1201 = .ok (.iload 19, 2) := by decide +kernel
theorem dL_law_1203 : decode cL_law 1203 = .ok (.ifCond .ne 10, 3) := by decide +kernel
theorem dL_law_1206 : decode cL_law 1206 = .ok (.iload 20, 2) := by decide +kernel
theorem dL_law_1208 : decode cL_law 1208 = .ok (.ifCond .eq 5, 3) := by decide +kernel
theorem dL_law_1211 : decode cL_law 1211 = .ok (.iconst 0, 1) := by decide +kernel
theorem dL_law_1212 : decode cL_law 1212 = .ok (.ireturn, 1) := by decide +kernel
theorem dL_law_1213 : decode cL_law 1213 = .ok (.iload 15, 2) := by decide +kernel
theorem dL_law_1215 : decode cL_law 1215 = .ok (.ifCond .ge 17, 3) := by decide +kernel
theorem dL_law_1218 : decode cL_law 1218 = .ok (.aload_n 1, 1) := by decide +kernel
theorem dL_law_1219 : decode cL_law 1219 = .ok (.iload 4, 2) := by decide +kernel
theorem dL_law_1221 : decode cL_law 1221 = .ok (.iload 5, 2) := by decide +kernel
theorem dL_law_1223 : decode cL_law 1223 = .ok (.invokestatic 131, 3) := by decide +kernel
theorem dL_law_1226 : decode cL_law 1226 = .ok (.lload 13, 2) := by decide +kernel
theorem dL_law_1228 : decode cL_law 1228 = .ok (.lcmp, 1) := by decide +kernel
theorem dL_law_1229 : decode cL_law 1229 = .ok (.ifCond .ne 16, 3) := by decide +kernel
theorem dL_law_1232 : decode cL_law 1232 = .ok (.aload_n 1, 1) := by decide +kernel
theorem dL_law_1233 : decode cL_law 1233 = .ok (.iload 4, 2) := by decide +kernel
theorem dL_law_1235 : decode cL_law 1235 = .ok (.iload 5, 2) := by decide +kernel
theorem dL_law_1237 : decode cL_law 1237 = .ok (.aload_n 2, 1) := by decide +kernel
theorem dL_law_1238 : decode cL_law 1238 = .ok (.aload_n 3, 1) := by decide +kernel
theorem dL_law_1239 : decode cL_law 1239 = .ok (.invokestatic 146, 3) := by decide +kernel
theorem dL_law_1242 : decode cL_law 1242 = .ok (.ifCond .ne 5, 3) := by decide +kernel
theorem dL_law_1245 : decode cL_law 1245 = .ok (.iconst 0, 1) := by decide +kernel
theorem dL_law_1246 : decode cL_law 1246 = .ok (.ireturn, 1) := by decide +kernel
theorem dL_law_1247 : decode cL_law 1247 = .ok (.iinc 7 1, 3) := by decide +kernel
theorem dL_law_1250 : decode cL_law 1250 = .ok (.goto (-1221), 3) := by decide +kernel
theorem dL_law_1253 : decode cL_law 1253 = .ok (.aload_n 1, 1) := by decide +kernel
theorem dL_law_1254 : decode cL_law 1254 = .ok (.bipush 20, 2) := by decide +kernel
theorem dL_law_1256 : decode cL_law 1256 = .ok (.iconst 0, 1) := by decide +kernel
theorem dL_law_1257 : decode cL_law 1257 = .ok (.iconst 0, 1) := by decide +kernel
theorem dL_law_1258 : decode cL_law 1258 = .ok (.iconst 0, 1) := by decide +kernel
theorem dL_law_1259 : decode cL_law 1259 = .ok (.iconst 0, 1) := by decide +kernel
theorem dL_law_1260 : decode cL_law 1260 = .ok (.invokestatic 107, 3) := by decide +kernel
theorem dL_law_1263 : decode cL_law 1263 = .ok (.sipush (-1002), 3) := by decide +kernel
theorem dL_law_1266 : decode cL_law 1266 = .ok (.if_icmp .ne 58, 3) := by decide +kernel
theorem dL_law_1269 : decode cL_law 1269 = .ok (.aload_n 1, 1) := by decide +kernel
theorem dL_law_1270 : decode cL_law 1270 = .ok (.bipush 15, 2) := by decide +kernel
theorem dL_law_1272 : decode cL_law 1272 = .ok (.iload 5, 2) := by decide +kernel
theorem dL_law_1274 : decode cL_law 1274 = .ok (.iconst 0, 1) := by decide +kernel
theorem dL_law_1275 : decode cL_law 1275 = .ok (.iconst 0, 1) := by decide +kernel
theorem dL_law_1276 : decode cL_law 1276 = .ok (.iconst 0, 1) := by decide +kernel
theorem dL_law_1277 : decode cL_law 1277 = .ok (.invokestatic 107, 3) := by decide +kernel
theorem dL_law_1280 : decode cL_law 1280 = .ok (.sipush (-1001), 3) := by decide +kernel
theorem dL_law_1283 : decode cL_law 1283 = .ok (.if_icmp .ne 41, 3) := by decide +kernel
theorem dL_law_1286 : decode cL_law 1286 = .ok (.aload_n 1, 1) := by decide +kernel
theorem dL_law_1287 : decode cL_law 1287 = .ok (.iconst 1, 1) := by decide +kernel
theorem dL_law_1288 : decode cL_law 1288 = .ok (.sipush 1010, 3) := by decide +kernel
theorem dL_law_1291 : decode cL_law 1291 = .ok (.iconst 0, 1) := by decide +kernel
theorem dL_law_1292 : decode cL_law 1292 = .ok (.iconst 0, 1) := by decide +kernel
theorem dL_law_1293 : decode cL_law 1293 = .ok (.iconst 0, 1) := by decide +kernel
theorem dL_law_1294 : decode cL_law 1294 = .ok (.invokestatic 107, 3) := by decide +kernel
theorem dL_law_1297 : decode cL_law 1297 = .ok (.sipush (-1002), 3) := by decide +kernel
theorem dL_law_1300 : decode cL_law 1300 = .ok (.if_icmp .ne 24, 3) := by decide +kernel
theorem dL_law_1303 : decode cL_law 1303 = .ok (.aload_n 1, 1) := by decide +kernel
theorem dL_law_1304 : decode cL_law 1304 = .ok (.bipush 16, 2) := by decide +kernel
theorem dL_law_1306 : decode cL_law 1306 = .ok (.iconst 0, 1) := by decide +kernel
theorem dL_law_1307 : decode cL_law 1307 = .ok (.iload 4, 2) := by decide +kernel
theorem dL_law_1309 : decode cL_law 1309 = .ok (.iconst 0, 1) := by decide +kernel
theorem dL_law_1310 : decode cL_law 1310 = .ok (.iconst 0, 1) := by decide +kernel
theorem dL_law_1311 : decode cL_law 1311 = .ok (.invokestatic 107, 3) := by decide +kernel
theorem dL_law_1314 : decode cL_law 1314 = .ok (.sipush (-1001), 3) := by decide +kernel
theorem dL_law_1317 : decode cL_law 1317 = .ok (.if_icmp .ne 7, 3) := by decide +kernel
theorem dL_law_1320 : decode cL_law 1320 = .ok (.iconst 1, 1) := by decide +kernel
theorem dL_law_1321 : decode cL_law 1321 = .ok (.goto 4, 3) := by decide +kernel
theorem dL_law_1324 : decode cL_law 1324 = .ok (.iconst 0, 1) := by decide +kernel
theorem dL_law_1325 : decode cL_law 1325 = .ok (.ireturn, 1) := by decide +kernel
set_option maxRecDepth 20000 in
theorem ggL_undone_X6_calls : GoodIn wsL_undone wsX6_calls := goodIn_r _ [5, 6, 294, 295, 296, 297, 298, 299, 300, 301, 302, 303] (by decide +kernel) (by decide +kernel)
set_option maxRecDepth 20000 in
theorem gL_undone_X6_calls : GoodIn wsL_undone (wsV RL 113 RX6 yX6_calls wsX6_calls) := goodIn_app (goodIn_of _ (by decide +kernel)) ggL_undone_X6_calls
set_option maxRecDepth 20000 in
theorem ggL_undone_L_ask : GoodIn wsL_undone wsL_ask := goodIn_ca (goodIn_ca (goodIn_ca (goodIn_ca (goodIn_r _ [10, 11, 12, 13, 14, 15, 16, 17, 18, 4, 19, 20, 21, 22, 23, 24, 25, 26, 27, 28, 29, 30, 31, 32, 33, 34, 35, 36, 37, 38, 39, 40, 41, 42, 43, 44, 45, 46, 47, 48, 49, 50, 51, 52, 53, 54, 55, 56, 57, 58, 59, 60, 61, 62, 63, 64, 65, 66, 67, 68, 69, 70, 71, 72, 73, 74, 75, 76, 77, 78, 79, 80, 81, 82, 83, 84, 85, 86, 87, 88, 89, 90, 91, 92, 93, 94, 95, 96, 97, 98, 99, 100, 101, 102, 103, 104, 105, 106, 107, 108, 109, 110, 111, 112, 113, 114, 115, 116, 117, 118, 119, 120, 121, 122, 123, 124, 125, 126, 127, 128, 129, 130, 131, 132, 133, 134, 135, 136, 137, 138, 139, 140, 141, 142, 143, 6, 144, 145, 146, 147, 148, 149, 150, 151, 152, 153, 154, 155, 156, 157, 158, 159, 160, 161, 162, 163, 164, 165, 166, 167, 168, 169, 170, 171, 172, 173, 174, 175, 176, 177, 178, 179, 180, 181, 182, 183, 184, 185, 186, 187, 188, 189, 190, 191, 192, 193, 194, 195, 196, 197, 198, 199, 200, 201, 202, 203, 204, 205, 206, 207, 208, 209, 210, 211, 212, 213, 214, 215, 216, 217, 218, 219, 220, 221, 222, 223, 224, 225, 226, 227, 228, 229, 230, 231, 232, 233, 234, 235, 236, 237, 238, 239, 240, 241, 242, 243, 244, 245, 246, 247, 248, 249, 250, 251, 252, 253, 254, 255, 256, 257, 258, 259, 260, 261, 262, 263, 264, 265, 266, 267, 268, 269, 270, 271, 272, 273, 274, 275, 276, 277, 278, 279, 280, 281, 282, 283, 284, 285, 286, 287, 288, 289, 290, 291, 292, 293, 294, 295, 296, 297, 298, 299, 300, 301, 304, 305, 306, 307, 308, 309, 310, 311, 312, 313, 314, 315, 302, 303, 316, 317, 318, 319, 320, 321, 322, 323, 324, 325, 326, 327, 328] (by decide +kernel) (by decide +kernel)) (goodIn_sub (fun _ h => List.mem_cons_of_mem _ (List.mem_append_left _ (List.mem_append_left _ (List.mem_append_left _ (List.mem_append_right _ h))))) (by decide +kernel))) (goodIn_sub (fun _ h => List.mem_cons_of_mem _ (List.mem_append_left _ (List.mem_append_left _ (List.mem_append_right _ h)))) (by decide +kernel))) (goodIn_sub (fun _ h => List.mem_cons_of_mem _ (List.mem_append_left _ (List.mem_append_right _ h))) (by decide +kernel))) (goodIn_sub (fun _ h => List.mem_cons_of_mem _ (List.mem_append_right _ h)) (by decide +kernel))
set_option maxRecDepth 20000 in
theorem gL_undone_L_ask : GoodIn wsL_undone (va_wsS RL 107 yL_ask wsL_ask) := goodIn_app (goodIn_of _ (by decide +kernel)) ggL_undone_L_ask
theorem dL_undone_0 : decode cL_undone 0 = .ok (.iconst 0, 1) := by decide +kernel
theorem dL_undone_1 : decode cL_undone 1 = .ok (.istore_n 1, 1) := by decide +kernel
theorem dL_undone_2 : decode cL_undone 2 = .ok (.iconst 0, 1) := by decide +kernel
theorem dL_undone_3 : decode cL_undone 3 = .ok (.istore_n 2, 1) := by decide +kernel
theorem dL_undone_4 : decode cL_undone 4 = .ok (.iload_n 2, 1) := by decide +kernel
theorem dL_undone_5 : decode cL_undone 5 = .ok (.aload_n 0, 1) := by decide +kernel
theorem dL_undone_6 : decode cL_undone 6 = .ok (.invokevirtual 113, 3) := by decide +kernel
theorem dL_undone_9 : decode cL_undone 9 = .ok (.if_icmp .ge 22, 3) := by decide +kernel
theorem dL_undone_12 : decode cL_undone 12 = .ok (.iload_n 1, 1) := by decide +kernel
theorem dL_undone_13 : decode cL_undone 13 = .ok (.aload_n 0, 1) := by decide +kernel
theorem dL_undone_14 : decode cL_undone 14 = .ok (.bipush 22, 2) := by decide +kernel
theorem dL_undone_16 : decode cL_undone 16 = .ok (.iload_n 2, 1) := by decide +kernel
theorem dL_undone_17 : decode cL_undone 17 = .ok (.iconst 0, 1) := by decide +kernel
theorem dL_undone_18 : decode cL_undone 18 = .ok (.iconst 0, 1) := by decide +kernel
theorem dL_undone_19 : decode cL_undone 19 = .ok (.iconst 0, 1) := by decide +kernel
theorem dL_undone_20 : decode cL_undone 20 = .ok (.invokestatic 107, 3) := by decide +kernel
theorem dL_undone_23 : decode cL_undone 23 = .ok (.iadd, 1) := by decide +kernel
theorem dL_undone_24 : decode cL_undone 24 = .ok (.istore_n 1, 1) := by decide +kernel
theorem dL_undone_25 : decode cL_undone 25 = .ok (.iinc 2 1, 3) := by decide +kernel
theorem dL_undone_28 : decode cL_undone 28 = .ok (.goto (-24), 3) := by decide +kernel
theorem dL_undone_31 : decode cL_undone 31 = .ok (.iload_n 1, 1) := by decide +kernel
theorem dL_undone_32 : decode cL_undone 32 = .ok (.ireturn, 1) := by decide +kernel
set_option maxRecDepth 20000 in
theorem ggL_tokens_L_ask : GoodIn wsL_tokens wsL_ask := goodIn_ca (goodIn_ca (goodIn_ca (goodIn_ca (goodIn_r _ [4, 5, 6, 7, 8, 9, 10, 11, 12, 13, 14, 15, 16, 17, 18, 19, 20, 21, 22, 23, 24, 25, 26, 27, 28, 29, 30, 31, 32, 33, 34, 35, 36, 37, 38, 39, 40, 41, 42, 43, 44, 45, 46, 47, 48, 49, 50, 51, 52, 53, 54, 55, 56, 57, 58, 59, 60, 61, 62, 63, 64, 65, 66, 67, 68, 69, 70, 71, 72, 73, 74, 75, 76, 77, 78, 79, 80, 81, 82, 83, 84, 85, 86, 87, 88, 89, 90, 91, 92, 93, 94, 95, 96, 97, 98, 99, 100, 101, 102, 103, 104, 105, 106, 107, 108, 109, 110, 111, 112, 113, 114, 115, 116, 117, 118, 119, 120, 121, 122, 123, 124, 125, 126, 127, 128, 129, 130, 131, 132, 133, 134, 135, 136, 137, 138, 139, 140, 141, 142, 143, 144, 145, 146, 147, 148, 149, 150, 151, 152, 153, 154, 155, 156, 157, 158, 159, 160, 161, 162, 163, 164, 165, 166, 167, 168, 169, 170, 171, 172, 173, 174, 175, 176, 177, 178, 179, 180, 181, 182, 183, 184, 185, 186, 187, 188, 189, 190, 191, 192, 193, 194, 195, 196, 197, 198, 199, 200, 201, 202, 203, 204, 205, 206, 207, 208, 209, 210, 211, 212, 213, 214, 215, 216, 217, 218, 219, 220, 221, 222, 223, 224, 225, 226, 227, 228, 229, 230, 231, 232, 233, 234, 235, 236, 237, 238, 239, 240, 241, 242, 243, 244, 245, 246, 247, 248, 249, 250, 251, 252, 253, 254, 255, 256, 257, 258, 259, 260, 261, 262, 263, 264, 265, 266, 267, 268, 269, 270, 271, 272, 273, 274, 275, 276, 277, 278, 279, 280, 281, 282, 283, 284, 285, 286, 287, 288, 289, 290, 291, 292, 293, 294, 295, 296, 297, 298, 299, 300, 301, 302, 303, 304, 305, 306, 307, 308, 309, 310, 311, 312, 313, 314, 315, 316, 317, 318, 319, 320, 321, 322, 323, 324] (by decide +kernel) (by decide +kernel)) (goodIn_sub (fun _ h => List.mem_cons_of_mem _ (List.mem_append_left _ (List.mem_append_left _ (List.mem_append_left _ (List.mem_append_right _ h))))) (by decide +kernel))) (goodIn_sub (fun _ h => List.mem_cons_of_mem _ (List.mem_append_left _ (List.mem_append_left _ (List.mem_append_right _ h)))) (by decide +kernel))) (goodIn_sub (fun _ h => List.mem_cons_of_mem _ (List.mem_append_left _ (List.mem_append_right _ h))) (by decide +kernel))) (goodIn_sub (fun _ h => List.mem_cons_of_mem _ (List.mem_append_right _ h)) (by decide +kernel))
set_option maxRecDepth 20000 in
theorem gL_tokens_L_ask : GoodIn wsL_tokens (va_wsS RL 107 yL_ask wsL_ask) := goodIn_app (goodIn_of _ (by decide +kernel)) ggL_tokens_L_ask
theorem dL_tokens_0 : decode cL_tokens 0 = .ok (.iconst 0, 1) := by decide +kernel
theorem dL_tokens_1 : decode cL_tokens 1 = .ok (.istore_n 2, 1) := by decide +kernel
theorem dL_tokens_2 : decode cL_tokens 2 = .ok (.iconst 0, 1) := by decide +kernel
theorem dL_tokens_3 : decode cL_tokens 3 = .ok (.istore_n 3, 1) := by decide +kernel
theorem dL_tokens_4 : decode cL_tokens 4 = .ok (.iload_n 3, 1) := by decide +kernel
theorem dL_tokens_5 : decode cL_tokens 5 = .ok (.iload_n 1, 1) := by decide +kernel
theorem dL_tokens_6 : decode cL_tokens 6 = .ok (.if_icmp .ge 22, 3) := by decide +kernel
theorem dL_tokens_9 : decode cL_tokens 9 = .ok (.iload_n 2, 1) := by decide +kernel
theorem dL_tokens_10 : decode cL_tokens 10 = .ok (.aload_n 0, 1) := by decide +kernel
theorem dL_tokens_11 : decode cL_tokens 11 = .ok (.bipush 15, 2) := by decide +kernel
theorem dL_tokens_13 : decode cL_tokens 13 = .ok (.iload_n 3, 1) := by decide +kernel
theorem dL_tokens_14 : decode cL_tokens 14 = .ok (.iconst 0, 1) := by decide +kernel
theorem dL_tokens_15 : decode cL_tokens 15 = .ok (.iconst 0, 1) := by decide +kernel
theorem dL_tokens_16 : decode cL_tokens 16 = .ok (.iconst 0, 1) := by decide +kernel
theorem dL_tokens_17 : decode cL_tokens 17 = .ok (.invokestatic 107, 3) := by decide +kernel
theorem dL_tokens_20 : decode cL_tokens 20 = .ok (.iadd, 1) := by decide +kernel
theorem dL_tokens_21 : decode cL_tokens 21 = .ok (.istore_n 2, 1) := by decide +kernel
theorem dL_tokens_22 : decode cL_tokens 22 = .ok (.iinc 3 1, 3) := by decide +kernel
theorem dL_tokens_25 : decode cL_tokens 25 = .ok (.goto (-21), 3) := by decide +kernel
theorem dL_tokens_28 : decode cL_tokens 28 = .ok (.iload_n 2, 1) := by decide +kernel
theorem dL_tokens_29 : decode cL_tokens 29 = .ok (.ireturn, 1) := by decide +kernel
set_option maxRecDepth 20000 in
theorem ggL_bills_X6_bill : GoodIn wsL_bills wsX6_bill := goodIn_ca (goodIn_r _ [7, 8, 9, 10, 6, 11, 12, 13, 14, 15, 16, 17, 18, 19, 20, 21, 22, 23, 24, 25, 26] (by decide +kernel) (by decide +kernel)) (goodIn_sub (fun _ h => List.mem_cons_of_mem _ (List.mem_append_right _ h)) (by decide +kernel))
set_option maxRecDepth 20000 in
theorem gL_bills_X6_bill : GoodIn wsL_bills (wsV RL 68 RX6 yX6_bill wsX6_bill) := goodIn_app (goodIn_of _ (by decide +kernel)) ggL_bills_X6_bill
theorem dL_bills_0 : decode cL_bills 0 = .ok (.ldc2_w 150, 3) := by decide +kernel
theorem dL_bills_3 : decode cL_bills 3 = .ok (.lstore_n 2, 1) := by decide +kernel
theorem dL_bills_4 : decode cL_bills 4 = .ok (.iconst 0, 1) := by decide +kernel
theorem dL_bills_5 : decode cL_bills 5 = .ok (.istore 4, 2) := by decide +kernel
theorem dL_bills_7 : decode cL_bills 7 = .ok (.iload 4, 2) := by decide +kernel
theorem dL_bills_9 : decode cL_bills 9 = .ok (.iload_n 1, 1) := by decide +kernel
theorem dL_bills_10 : decode cL_bills 10 = .ok (.if_icmp .ge 22, 3) := by decide +kernel
theorem dL_bills_13 : decode cL_bills 13 = .ok (.ldc2_w 105, 3) := by decide +kernel
theorem dL_bills_16 : decode cL_bills 16 = .ok (.lload_n 2, 1) := by decide +kernel
theorem dL_bills_17 : decode cL_bills 17 = .ok (.lmul, 1) := by decide +kernel
theorem dL_bills_18 : decode cL_bills 18 = .ok (.aload_n 0, 1) := by decide +kernel
theorem dL_bills_19 : decode cL_bills 19 = .ok (.iload 4, 2) := by decide +kernel
theorem dL_bills_21 : decode cL_bills 21 = .ok (.invokevirtual 68, 3) := by decide +kernel
theorem dL_bills_24 : decode cL_bills 24 = .ok (.ladd, 1) := by decide +kernel
theorem dL_bills_25 : decode cL_bills 25 = .ok (.lstore_n 2, 1) := by decide +kernel
theorem dL_bills_26 : decode cL_bills 26 = .ok (.iinc 4 1, 3) := by decide +kernel
theorem dL_bills_29 : decode cL_bills 29 = .ok (.goto (-22), 3) := by decide +kernel
theorem dL_bills_32 : decode cL_bills 32 = .ok (.lload_n 2, 1) := by decide +kernel
theorem dL_bills_33 : decode cL_bills 33 = .ok (.lreturn, 1) := by decide +kernel
