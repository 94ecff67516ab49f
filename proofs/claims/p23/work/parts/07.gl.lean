set_option maxRecDepth 20000 in
theorem ggL_act_L_below : GoodIn wsL_act wsL_below := goodIn_r _ [19, 20] (by decide +kernel) (by decide +kernel)
set_option maxRecDepth 20000 in
theorem gL_act_L_below : GoodIn wsL_act (va_wsS RL 19 yL_below wsL_below) := goodIn_app (goodIn_of _ (by decide +kernel)) ggL_act_L_below
set_option maxRecDepth 20000 in
theorem ggL_act_X5_init : GoodIn wsL_act wsX5_init := goodIn_r _ [22, 23, 24, 25, 26, 8, 27, 173, 174, 175, 176] (by decide +kernel) (by decide +kernel)
set_option maxRecDepth 20000 in
theorem gL_act_X5_init_n27 : GoodIn wsL_act (wsX5_init) := ggL_act_X5_init
set_option maxRecDepth 20000 in
theorem ggL_act_X3_build : GoodIn wsL_act wsX3_build := goodIn_ca (goodIn_ca (goodIn_r _ [32, 33, 34, 35, 36, 37, 38, 39, 40, 31, 41, 177, 178, 179, 180, 181, 182, 183, 184, 185, 186, 187, 188, 189, 190, 191, 192, 193] (by decide +kernel) (by decide +kernel)) (goodIn_sub (fun _ h => List.mem_cons_of_mem _ (List.mem_append_left _ (List.mem_append_left _ (List.mem_append_right _ h)))) (by decide +kernel))) (goodIn_sub (fun _ h => List.mem_cons_of_mem _ (List.mem_append_left _ (List.mem_append_right _ h))) (by decide +kernel))
set_option maxRecDepth 20000 in
theorem gL_act_X3_build : GoodIn wsL_act (wsV RL 32 RX3 yX3_build wsX3_build) := goodIn_app (goodIn_of _ (by decide +kernel)) ggL_act_X3_build
set_option maxRecDepth 20000 in
theorem ggL_act_X3_launch : GoodIn wsL_act wsX3_launch := goodIn_ca (goodIn_ca (goodIn_r _ [45, 33, 34, 35, 36, 46, 47, 39, 40, 31, 41, 177, 178, 179, 180, 181, 182, 183, 184, 185, 186, 187, 188, 194, 195, 196] (by decide +kernel) (by decide +kernel)) (goodIn_sub (fun _ h => List.mem_cons_of_mem _ (List.mem_append_left _ (List.mem_append_left _ (List.mem_append_right _ h)))) (by decide +kernel))) (goodIn_sub (fun _ h => List.mem_cons_of_mem _ (List.mem_append_left _ (List.mem_append_right _ h))) (by decide +kernel))
set_option maxRecDepth 20000 in
theorem gL_act_X3_launch : GoodIn wsL_act (wsV RL 40 RX3 yX3_launch wsX3_launch) := goodIn_app (goodIn_of _ (by decide +kernel)) ggL_act_X3_launch
set_option maxRecDepth 20000 in
theorem ggL_act_X3_set : GoodIn wsL_act wsX3_set := goodIn_ca (goodIn_ca (goodIn_r _ [51, 52, 53, 33, 34, 54, 55, 56, 57, 31, 58, 39, 40, 41, 177, 178, 179, 180, 181, 182, 183, 184, 185, 186, 187, 188] (by decide +kernel) (by decide +kernel)) (goodIn_sub (fun _ h => List.mem_cons_of_mem _ (List.mem_append_right _ h)) (by decide +kernel))) (goodIn_sub (fun _ h => List.mem_cons_of_mem _ (List.mem_append_left _ (List.mem_append_left _ (List.mem_append_right _ h)))) (by decide +kernel))
set_option maxRecDepth 20000 in
theorem gL_act_X3_set : GoodIn wsL_act (wsV RL 49 RX3 yX3_set wsX3_set) := goodIn_app (goodIn_of _ (by decide +kernel)) ggL_act_X3_set
set_option maxRecDepth 20000 in
theorem ggL_act_X3_setGust : GoodIn wsL_act wsX3_setGust := goodIn_ca (goodIn_ca (goodIn_r _ [62, 52, 53, 33, 34, 63, 39, 40, 31, 41, 177, 178, 179, 180, 181, 182, 183, 184, 185, 186, 187, 188] (by decide +kernel) (by decide +kernel)) (goodIn_sub (fun _ h => List.mem_cons_of_mem _ (List.mem_append_right _ h)) (by decide +kernel))) (goodIn_sub (fun _ h => List.mem_cons_of_mem _ (List.mem_append_left _ (List.mem_append_left _ (List.mem_append_right _ h)))) (by decide +kernel))
set_option maxRecDepth 20000 in
theorem gL_act_X3_setGust : GoodIn wsL_act (wsV RL 56 RX3 yX3_setGust wsX3_setGust) := goodIn_app (goodIn_of _ (by decide +kernel)) ggL_act_X3_setGust
set_option maxRecDepth 20000 in
theorem ggL_act_X5_keep : GoodIn wsL_act wsX5_keep := goodIn_r _ [67, 8, 27, 173, 174, 175, 176] (by decide +kernel) (by decide +kernel)
set_option maxRecDepth 20000 in
theorem gL_act_X5_keep : GoodIn wsL_act (wsV RL 65 RX5 yX5_keep wsX5_keep) := goodIn_app (goodIn_of _ (by decide +kernel)) ggL_act_X5_keep
set_option maxRecDepth 20000 in
theorem ggL_act_X3_fill : GoodIn wsL_act wsX3_fill := goodIn_ca (goodIn_ca (goodIn_r _ [71, 52, 53, 35, 36, 38, 54, 72, 73, 74, 31, 75, 37, 56, 57, 58, 39, 40, 41, 76, 77, 78, 79, 80, 81, 82, 83, 84, 85, 86, 55, 87, 88, 89, 90, 91, 92, 93, 94, 95, 177, 178, 179, 180, 181, 182, 183, 184, 185, 186, 187, 188, 189, 190, 191, 192, 193] (by decide +kernel) (by decide +kernel)) (goodIn_sub (fun _ h => List.mem_cons_of_mem _ (List.mem_append_right _ h)) (by decide +kernel))) (goodIn_sub (fun _ h => List.mem_cons_of_mem _ (List.mem_append_left _ (List.mem_append_right _ h))) (by decide +kernel))
set_option maxRecDepth 20000 in
theorem gL_act_X3_fill : GoodIn wsL_act (wsV RL 69 RX3 yX3_fill wsX3_fill) := goodIn_app (goodIn_of _ (by decide +kernel)) ggL_act_X3_fill
set_option maxRecDepth 20000 in
theorem ggL_act_L_kind : GoodIn wsL_act wsL_kind := goodIn_r _ [98] (by decide +kernel) (by decide +kernel)
set_option maxRecDepth 20000 in
theorem gL_act_L_kind : GoodIn wsL_act (va_wsS RL 72 yL_kind wsL_kind) := goodIn_app (goodIn_of _ (by decide +kernel)) ggL_act_L_kind
set_option maxRecDepth 20000 in
theorem ggL_act_X3_go : GoodIn wsL_act wsX3_go := goodIn_ca (goodIn_ca (goodIn_r _ [102, 52, 53, 35, 36, 38, 72, 73, 74, 31, 75, 37, 177, 178, 179, 180, 181, 182, 183, 184, 185, 186, 187, 188, 189, 190, 191, 192, 193] (by decide +kernel) (by decide +kernel)) (goodIn_sub (fun _ h => List.mem_cons_of_mem _ (List.mem_append_right _ h)) (by decide +kernel))) (goodIn_sub (fun _ h => List.mem_cons_of_mem _ (List.mem_append_left _ (List.mem_append_right _ h))) (by decide +kernel))
set_option maxRecDepth 20000 in
theorem gL_act_X3_go : GoodIn wsL_act (wsV RL 75 RX3 yX3_go wsX3_go) := goodIn_app (goodIn_of _ (by decide +kernel)) ggL_act_X3_go
set_option maxRecDepth 20000 in
theorem ggL_act_X4_canSail : GoodIn wsL_act wsX4_canSail := goodIn_r _ [106, 107, 108, 105, 109] (by decide +kernel) (by decide +kernel)
set_option maxRecDepth 20000 in
theorem gL_act_X4_canSail : GoodIn wsL_act (va_wsS RL 78 yX4_canSail wsX4_canSail) := goodIn_app (goodIn_of _ (by decide +kernel)) ggL_act_X4_canSail
set_option maxRecDepth 20000 in
theorem ggL_act_X3_sail : GoodIn wsL_act wsX3_sail := goodIn_ca (goodIn_ca (goodIn_r _ [113, 52, 53, 35, 36, 47, 114, 115, 116, 117, 31, 118, 46, 119, 120, 121, 122, 123, 124, 125, 126, 127, 128, 129, 130, 131, 132, 133, 134, 135, 136, 137, 138, 139, 40, 41, 140, 141, 142, 143, 177, 178, 179, 180, 181, 182, 183, 184, 185, 186, 187, 188, 194, 195, 196] (by decide +kernel) (by decide +kernel)) (goodIn_sub (fun _ h => List.mem_cons_of_mem _ (List.mem_append_right _ h)) (by decide +kernel))) (goodIn_sub (fun _ h => List.mem_cons_of_mem _ (List.mem_append_left _ (List.mem_append_right _ h))) (by decide +kernel))
set_option maxRecDepth 20000 in
theorem gL_act_X3_sail : GoodIn wsL_act (wsV RL 85 RX3 yX3_sail wsX3_sail) := goodIn_app (goodIn_of _ (by decide +kernel)) ggL_act_X3_sail
set_option maxRecDepth 20000 in
theorem ggL_act_L_stowed : GoodIn wsL_act wsL_stowed := goodIn_r _ [146] (by decide +kernel) (by decide +kernel)
set_option maxRecDepth 20000 in
theorem gL_act_L_stowed : GoodIn wsL_act (va_wsS RL 91 yL_stowed wsL_stowed) := goodIn_app (goodIn_of _ (by decide +kernel)) ggL_act_L_stowed
set_option maxRecDepth 20000 in
theorem ggL_act_X3_stow : GoodIn wsL_act wsX3_stow := goodIn_ca (goodIn_ca (goodIn_r _ [150, 52, 53, 35, 36, 47, 151, 115, 116, 117, 31, 118, 46, 152, 153, 154, 39, 40, 41, 155, 156, 157, 158, 159, 160, 122, 161, 162, 128, 129, 163, 137, 138, 139, 177, 178, 179, 180, 181, 182, 183, 184, 185, 186, 187, 188, 197, 198, 194, 195, 196] (by decide +kernel) (by decide +kernel)) (goodIn_sub (fun _ h => List.mem_cons_of_mem _ (List.mem_append_right _ h)) (by decide +kernel))) (goodIn_sub (fun _ h => List.mem_cons_of_mem _ (List.mem_append_left _ (List.mem_append_right _ h))) (by decide +kernel))
set_option maxRecDepth 20000 in
theorem gL_act_X3_stow : GoodIn wsL_act (wsV RL 94 RX3 yX3_stow wsX3_stow) := goodIn_app (goodIn_of _ (by decide +kernel)) ggL_act_X3_stow
set_option maxRecDepth 20000 in
theorem ggL_build_X4_init : GoodIn wsL_build wsX4_init := goodIn_r _ [5, 6, 7, 8, 9, 10, 11, 12, 13, 14, 15, 16, 17, 245, 246, 247, 248, 249, 250, 251, 252, 253] (by decide +kernel) (by decide +kernel)
set_option maxRecDepth 20000 in
theorem gL_build_X4_init_n98 : GoodIn wsL_build (wsX4_init) := ggL_build_X4_init
set_option maxRecDepth 20000 in
theorem ggL_build_L_cell : GoodIn wsL_build wsL_cell := goodIn_r _ [21, 22] (by decide +kernel) (by decide +kernel)
set_option maxRecDepth 20000 in
theorem gL_build_L_cell : GoodIn wsL_build (va_wsS RL 99 yL_cell wsL_cell) := goodIn_app (goodIn_of _ (by decide +kernel)) ggL_build_L_cell
set_option maxRecDepth 20000 in
theorem ggL_build_L_act : GoodIn wsL_build wsL_act := goodIn_ca (goodIn_ca (goodIn_ca (goodIn_r _ [25, 26, 27, 28, 29, 30, 31, 32, 9, 33, 34, 35, 36, 37, 38, 39, 40, 41, 20, 42, 43, 44, 45, 46, 7, 8, 47, 48, 49, 50, 51, 52, 53, 54, 55, 56, 57, 58, 59, 60, 61, 62, 63, 64, 65, 66, 67, 68, 69, 70, 71, 72, 73, 74, 75, 76, 77, 78, 79, 80, 81, 82, 83, 84, 85, 86, 87, 88, 89, 90, 91, 92, 93, 94, 95, 96, 97, 98, 99, 100, 101, 102, 103, 104, 105, 106, 107, 108, 109, 110, 111, 112, 113, 114, 115, 116, 117, 118, 119, 120, 121, 122, 123, 124, 125, 3, 126, 127, 128, 129, 130, 131, 132, 133, 134, 135, 136, 137, 138, 139, 140, 141, 142, 143, 144, 145, 146, 147, 148, 149, 150, 151, 152, 153, 154, 155, 156, 157, 158, 159, 160, 161, 162, 163, 164, 165, 166, 167, 168, 169, 170, 171, 172, 173, 174, 175, 176, 177, 178, 179, 180, 181, 182, 183, 245, 246, 247, 248, 249, 250, 251, 252, 253, 254, 255, 256, 257, 258, 259, 260, 261, 262, 263, 264, 265, 266, 267, 268, 269, 270, 271, 272, 273, 274, 275, 276, 277, 278, 279] rfl (by decide +kernel)) (goodIn_sub (fun _ h => List.mem_cons_of_mem _ (List.mem_append_left _ (List.mem_append_left _ (List.mem_append_right _ h)))) (by decide +kernel))) (goodIn_sub (fun _ h => List.mem_cons_of_mem _ (List.mem_append_left _ (List.mem_append_right _ h))) (by decide +kernel))) (goodIn_sub (fun _ h => List.mem_cons_of_mem _ (List.mem_append_right _ h)) (by decide +kernel))
set_option maxRecDepth 20000 in
theorem gL_build_L_act : GoodIn wsL_build (va_wsS RL 103 yL_act wsL_act) := goodIn_app (goodIn_of _ (by decide +kernel)) ggL_build_L_act
set_option maxRecDepth 20000 in
theorem ggL_build_X3_pass : GoodIn wsL_build wsX3_pass := goodIn_ca (goodIn_r _ [187, 54, 55, 171, 60, 61, 52, 62, 188, 189, 190, 191, 192, 193, 194, 195, 196, 197, 198, 58, 59, 199, 200, 201, 202, 84, 203, 204, 205, 206, 207, 208, 209, 100, 210, 211, 212, 213, 214, 215, 102, 216, 217, 218, 154, 219, 220, 221, 222, 223, 112, 115, 116, 224, 225, 226, 227, 228, 229, 230, 258, 259, 260, 261, 262, 263, 264, 265, 266, 267, 268, 269, 278, 279, 270, 271, 272, 273, 274] (by decide +kernel) (by decide +kernel)) (goodIn_sub (fun _ h => List.mem_cons_of_mem _ (List.mem_append_left _ (List.mem_append_left _ (List.mem_append_right _ h)))) (by decide +kernel))
set_option maxRecDepth 20000 in
theorem gL_build_X3_pass : GoodIn wsL_build (wsV RL 107 RX3 yX3_pass wsX3_pass) := goodIn_app (goodIn_of _ (by decide +kernel)) ggL_build_X3_pass
set_option maxRecDepth 20000 in
theorem ggL_build_X4_pass : GoodIn wsL_build wsX4_pass := goodIn_r _ [234, 12, 235, 14, 236, 237, 238, 239, 17, 240, 241, 242, 3, 243, 244, 86, 87, 30, 88, 9, 48, 118, 20, 119, 245, 246, 247, 248, 249, 250, 251, 252, 253, 254, 255, 256, 257] (by decide +kernel) (by decide +kernel)
set_option maxRecDepth 20000 in
theorem gL_build_X4_pass : GoodIn wsL_build (wsV RL 110 RX4 yX4_pass wsX4_pass) := goodIn_app (goodIn_of _ (by decide +kernel)) ggL_build_X4_pass
set_option maxRecDepth 20000 in
theorem ggL_law_X3_init : GoodIn wsL_law wsX3_init := goodIn_r _ [16, 17, 18, 19, 4, 20, 21, 22, 23, 24, 25, 26, 27, 28, 29, 30, 31, 32, 33, 34, 35, 36, 37, 38, 39, 40, 41, 42, 43, 44, 45, 46, 47, 48, 49, 367, 368, 369, 370, 371, 372, 373, 374, 375, 376, 377, 378, 388, 389, 390, 391, 392, 393, 394, 395, 396, 397] (by decide +kernel) (by decide +kernel)
set_option maxRecDepth 20000 in
theorem gL_law_X3_init : GoodIn wsL_law (wsX3_init) := ggL_law_X3_init
set_option maxRecDepth 20000 in
theorem ggL_law_L_build : GoodIn wsL_law wsL_build := goodIn_ca (goodIn_ca (goodIn_ca (goodIn_r _ [53, 54, 55, 56, 57, 58, 59, 18, 19, 4, 60, 61, 62, 63, 64, 65, 66, 67, 68, 69, 52, 70, 71, 72, 73, 74, 3, 10, 75, 76, 77, 78, 79, 80, 81, 82, 83, 84, 85, 86, 87, 88, 89, 90, 91, 92, 93, 94, 95, 96, 97, 98, 2, 99, 100, 101, 102, 103, 104, 24, 105, 106, 107, 108, 109, 110, 111, 112, 26, 113, 114, 115, 116, 117, 118, 20, 21, 119, 120, 121, 122, 123, 124, 125, 22, 126, 127, 128, 129, 130, 131, 132, 133, 134, 135, 136, 137, 138, 139, 140, 32, 141, 142, 143, 144, 145, 146, 147, 148, 149, 150, 151, 44, 152, 153, 154, 155, 156, 157, 158, 159, 160, 161, 162, 163, 164, 165, 166, 167, 168, 169, 170, 171, 172, 173, 174, 175, 176, 177, 178, 179, 180, 36, 181, 182, 183, 184, 185, 186, 187, 188, 189, 190, 12, 8, 13, 191, 192, 193, 194, 195, 196, 197, 198, 199, 200, 201, 202, 203, 204, 205, 30, 206, 207, 208, 209, 210, 211, 212, 213, 214, 215, 216, 217, 218, 219, 220, 221, 222, 223, 224, 29, 225, 40, 226, 227, 228, 229, 230, 231, 232, 233, 234, 235, 236, 237, 238, 239, 240, 241, 242, 46, 243, 244, 245, 246, 45, 247, 7, 9, 248, 249, 250, 251, 252, 253, 254, 255, 256, 257, 258, 259, 260, 261, 262, 263, 264, 265, 266, 267, 268, 269, 270, 271, 272, 379, 380, 381, 382, 383, 384, 385, 386, 387, 398, 399, 400, 401, 367, 368, 369, 370, 371, 372, 373, 374, 375, 376, 377, 378, 390, 391, 392, 393, 394, 395, 396, 397, 388, 389] rfl (by decide +kernel)) (goodIn_sub (fun _ h => List.mem_append_left _ (List.mem_append_left _ (List.mem_append_right _ h))) (by decide +kernel))) (goodIn_sub (fun _ h => List.mem_append_left _ (List.mem_append_right _ h)) (by decide +kernel))) (goodIn_sub (fun _ h => List.mem_append_right _ h) (by decide +kernel))
set_option maxRecDepth 20000 in
theorem gL_law_L_build : GoodIn wsL_law (va_wsS RL 114 yL_build wsL_build) := goodIn_app (goodIn_of _ (by decide +kernel)) ggL_law_L_build
set_option maxRecDepth 20000 in
theorem ggL_law_L_cell : GoodIn wsL_law wsL_cell := goodIn_r _ [70, 71] (by decide +kernel) (by decide +kernel)
set_option maxRecDepth 20000 in
theorem gL_law_L_cell : GoodIn wsL_law (va_wsS RL 99 yL_cell wsL_cell) := goodIn_app (goodIn_of _ (by decide +kernel)) ggL_law_L_cell
set_option maxRecDepth 20000 in
theorem ggL_law_L_act : GoodIn wsL_law wsL_act := goodIn_ca (goodIn_ca (goodIn_ca (goodIn_r _ [74, 3, 10, 75, 76, 77, 78, 79, 4, 80, 81, 82, 83, 84, 85, 86, 87, 88, 52, 89, 90, 91, 92, 93, 18, 19, 94, 95, 96, 97, 98, 2, 99, 100, 101, 102, 103, 104, 24, 105, 106, 107, 108, 109, 110, 111, 112, 26, 113, 114, 115, 116, 117, 118, 20, 21, 119, 120, 121, 122, 123, 124, 125, 22, 126, 127, 128, 129, 130, 131, 132, 133, 134, 135, 136, 137, 138, 139, 140, 32, 141, 142, 143, 144, 145, 146, 147, 148, 149, 150, 151, 44, 152, 153, 154, 155, 156, 157, 158, 159, 160, 161, 162, 163, 164, 56, 165, 166, 167, 168, 169, 170, 171, 172, 173, 174, 175, 176, 177, 178, 179, 180, 36, 181, 182, 183, 184, 185, 186, 187, 188, 189, 190, 12, 8, 13, 191, 192, 193, 194, 195, 196, 197, 198, 199, 200, 201, 202, 203, 204, 205, 30, 206, 207, 208, 209, 210, 211, 212, 213, 214, 215, 216, 217, 379, 380, 381, 382, 383, 384, 385, 386, 387, 398, 399, 400, 401, 367, 368, 369, 370, 371, 372, 373, 374, 375, 376, 377, 378, 390, 391, 392, 393, 394, 395, 396, 397, 388, 389] rfl (by decide +kernel)) (goodIn_sub (fun _ h => List.mem_append_left _ (List.mem_append_left _ (List.mem_append_right _ h))) (by decide +kernel))) (goodIn_sub (fun _ h => List.mem_append_left _ (List.mem_append_right _ h)) (by decide +kernel))) (goodIn_sub (fun _ h => List.mem_append_right _ h) (by decide +kernel))
set_option maxRecDepth 20000 in
theorem gL_law_L_act : GoodIn wsL_law (va_wsS RL 103 yL_act wsL_act) := goodIn_app (goodIn_of _ (by decide +kernel)) ggL_law_L_act
set_option maxRecDepth 20000 in
theorem ggL_law_X3_back : GoodIn wsL_law wsX3_back := goodIn_ca (goodIn_r _ [276, 117, 118, 33, 24, 230, 34, 134, 135, 136, 2, 137, 104, 277, 278, 279, 32, 280, 143, 44, 281, 282, 283, 284, 142, 45, 46, 231, 232, 233, 234, 22, 235, 236, 237, 238, 239, 240, 241, 242, 243, 244, 245, 246, 247, 7, 8, 9, 248, 249, 250, 251, 154, 155, 252, 253, 254, 255, 256, 257, 258, 367, 368, 369, 370, 371, 372, 373, 374, 375, 376, 377, 378, 390, 391, 392, 393, 394, 388, 389] (by decide +kernel) (by decide +kernel)) (goodIn_sub (fun _ h => List.mem_append_right _ h) (by decide +kernel))
set_option maxRecDepth 20000 in
theorem gL_law_X3_back : GoodIn wsL_law (wsV RL 118 RX3 yX3_back wsX3_back) := goodIn_app (goodIn_of _ (by decide +kernel)) ggL_law_X3_back
set_option maxRecDepth 20000 in
theorem ggL_law_X3_arrives : GoodIn wsL_law wsX3_arrives := goodIn_ca (goodIn_r _ [288, 117, 118, 33, 24, 34, 230, 134, 135, 136, 2, 137, 104, 277, 278, 279, 32, 280, 143, 44, 281, 282, 283, 284, 142, 45, 46, 222, 223, 224, 29, 225, 40, 231, 232, 233, 234, 22, 235, 236, 237, 238, 239, 240, 241, 242, 243, 244, 245, 246, 247, 7, 8, 9, 248, 249, 250, 251, 154, 155, 252, 253, 254, 255, 256, 257, 258, 367, 368, 369, 370, 371, 372, 373, 374, 375, 376, 377, 378, 390, 391, 392, 393, 394, 388, 389] (by decide +kernel) (by decide +kernel)) (goodIn_sub (fun _ h => List.mem_append_right _ h) (by decide +kernel))
set_option maxRecDepth 20000 in
theorem gL_law_X3_arrives : GoodIn wsL_law (wsV RL 121 RX3 yX3_arrives wsX3_arrives) := goodIn_app (goodIn_of _ (by decide +kernel)) ggL_law_X3_arrives
set_option maxRecDepth 20000 in
theorem ggL_law_X3_told : GoodIn wsL_law wsX3_told := goodIn_ca (goodIn_r _ [292, 117, 118, 24, 134, 135, 136, 2, 137, 104, 105, 106, 107, 293, 294, 295, 32, 296, 142, 44, 297, 298, 299, 300, 154, 155, 367, 368, 369, 370, 371, 372, 373, 374, 375, 376, 377, 378, 390, 391, 392, 393, 394] (by decide +kernel) (by decide +kernel)) (goodIn_sub (fun _ h => List.mem_append_right _ h) (by decide +kernel))
set_option maxRecDepth 20000 in
theorem gL_law_X3_told : GoodIn wsL_law (wsV RL 124 RX3 yX3_told wsX3_told) := goodIn_app (goodIn_of _ (by decide +kernel)) ggL_law_X3_told
set_option maxRecDepth 20000 in
theorem ggL_law_X3_count : GoodIn wsL_law wsX3_count := goodIn_ca (goodIn_r _ [304, 117, 118, 230, 104, 112, 173, 30, 105, 106, 2, 107, 231, 232, 233, 234, 22, 235, 236, 237, 238, 305, 306, 307, 308, 24, 222, 223, 224, 29, 225, 40, 309, 310, 311, 312, 20, 367, 368, 369, 370, 371, 372, 373, 374, 375, 376, 377, 378, 388, 389, 390, 391, 392, 393, 394] (by decide +kernel) (by decide +kernel)) (goodIn_sub (fun _ h => List.mem_append_right _ h) (by decide +kernel))
set_option maxRecDepth 20000 in
theorem gL_law_X3_count : GoodIn wsL_law (wsV RL 127 RX3 yX3_count wsX3_count) := goodIn_app (goodIn_of _ (by decide +kernel)) ggL_law_X3_count
set_option maxRecDepth 20000 in
theorem ggL_law_X3_foresee : GoodIn wsL_law wsX3_foresee := goodIn_ca (goodIn_ca (goodIn_r _ [316, 100, 101, 117, 118, 34, 30, 104, 24, 105, 106, 2, 107, 317, 318, 319, 29, 320, 40, 321, 282, 283, 284, 322, 323, 324, 325, 326, 33, 230, 277, 278, 279, 32, 280, 143, 44, 281, 142, 45, 46, 231, 232, 233, 234, 22, 235, 236, 237, 238, 239, 240, 241, 242, 243, 244, 245, 246, 247, 7, 8, 9, 248, 249, 250, 251, 154, 155, 252, 253, 254, 255, 256, 257, 258, 222, 223, 224, 225, 367, 368, 369, 370, 371, 372, 373, 374, 375, 376, 377, 378, 388, 389, 390, 391, 392, 393, 394] (by decide +kernel) (by decide +kernel)) (goodIn_sub (fun _ h => List.mem_append_left _ (List.mem_append_left _ (List.mem_append_right _ h))) (by decide +kernel))) (goodIn_sub (fun _ h => List.mem_append_right _ h) (by decide +kernel))
set_option maxRecDepth 20000 in
theorem gL_law_X3_foresee : GoodIn wsL_law (wsV RL 130 RX3 yX3_foresee wsX3_foresee) := goodIn_app (goodIn_of _ (by decide +kernel)) ggL_law_X3_foresee
set_option maxRecDepth 20000 in
theorem ggL_law_X3_pass : GoodIn wsL_law wsX3_pass := goodIn_ca (goodIn_r _ [221, 100, 101, 30, 105, 106, 2, 107, 222, 223, 224, 29, 225, 40, 226, 227, 228, 229, 230, 104, 24, 231, 232, 233, 234, 22, 235, 236, 237, 238, 239, 240, 241, 32, 242, 46, 243, 244, 245, 246, 142, 45, 247, 7, 8, 9, 248, 249, 250, 251, 44, 154, 155, 252, 253, 254, 255, 256, 257, 258, 367, 368, 369, 370, 371, 372, 373, 374, 375, 376, 377, 378, 388, 389, 390, 391, 392, 393, 394] (by decide +kernel) (by decide +kernel)) (goodIn_sub (fun _ h => List.mem_append_left _ (List.mem_append_left _ (List.mem_append_right _ h))) (by decide +kernel))
set_option maxRecDepth 20000 in
theorem gL_law_X3_pass : GoodIn wsL_law (wsV RL 107 RX3 yX3_pass wsX3_pass) := goodIn_app (goodIn_of _ (by decide +kernel)) ggL_law_X3_pass
set_option maxRecDepth 20000 in
theorem ggL_law_X4_pass : GoodIn wsL_law wsX4_pass := goodIn_r _ [262, 62, 263, 64, 264, 265, 266, 267, 67, 268, 269, 270, 56, 271, 272, 127, 128, 77, 129, 4, 95, 157, 52, 158, 379, 380, 381, 382, 383, 384, 385, 386, 387, 398, 399, 400, 401] (by decide +kernel) (by decide +kernel)
set_option maxRecDepth 20000 in
theorem gL_law_X4_pass : GoodIn wsL_law (wsV RL 110 RX4 yX4_pass wsX4_pass) := goodIn_app (goodIn_of _ (by decide +kernel)) ggL_law_X4_pass
set_option maxRecDepth 20000 in
theorem ggL_law_X3_boat : GoodIn wsL_law wsX3_boat := goodIn_ca (goodIn_r _ [330, 117, 118, 26, 174, 175, 176, 2, 177, 112, 105, 106, 107, 217, 192, 193, 36, 194, 186, 187, 331, 183, 184, 185, 188, 189, 190, 12, 8, 13, 178, 179, 180, 181, 182, 191, 212, 213, 214, 215, 216, 367, 368, 369, 370, 371, 372, 373, 374, 375, 376, 377, 378, 395, 396, 397] (by decide +kernel) (by decide +kernel)) (goodIn_sub (fun _ h => List.mem_append_right _ h) (by decide +kernel))
set_option maxRecDepth 20000 in
theorem gL_law_X3_boat : GoodIn wsL_law (wsV RL 138 RX3 yX3_boat wsX3_boat) := goodIn_app (goodIn_of _ (by decide +kernel)) ggL_law_X3_boat
set_option maxRecDepth 20000 in
theorem ggL_law_X3_advise : GoodIn wsL_law wsX3_advise := goodIn_ca (goodIn_r _ [335, 117, 118, 26, 174, 175, 176, 2, 177, 112, 206, 207, 208, 105, 106, 107, 209, 210, 211, 212, 213, 214, 36, 215, 216, 186, 187, 336, 188, 189, 190, 12, 8, 13, 367, 368, 369, 370, 371, 372, 373, 374, 375, 376, 377, 378, 395, 396, 397] (by decide +kernel) (by decide +kernel)) (goodIn_sub (fun _ h => List.mem_append_right _ h) (by decide +kernel))
set_option maxRecDepth 20000 in
theorem gL_law_X3_advise : GoodIn wsL_law (wsV RL 144 RX3 yX3_advise wsX3_advise) := goodIn_app (goodIn_of _ (by decide +kernel)) ggL_law_X3_advise
set_option maxRecDepth 20000 in
theorem ggL_law_X4_isSame : GoodIn wsL_law wsX4_isSame := goodIn_ca (goodIn_r _ [340, 4, 60, 61, 64, 265, 341, 267, 264, 66, 67, 263, 62, 342, 266, 157, 52, 158, 343, 344, 345, 2, 346, 117, 118, 20, 21, 119, 120, 121, 105, 106, 107, 144, 145, 146, 147, 153, 154, 155, 347, 348, 349, 77, 350, 95, 351, 290, 291, 292, 24, 134, 135, 136, 137, 104, 293, 294, 295, 32, 296, 142, 44, 297, 298, 299, 300, 166, 167, 56, 168, 352, 164, 165, 353, 328, 329, 330, 26, 174, 175, 176, 177, 112, 217, 192, 193, 36, 194, 186, 187, 331, 183, 184, 185, 188, 189, 190, 12, 8, 13, 178, 179, 180, 181, 182, 191, 212, 213, 214, 215, 216, 354, 355, 356, 357, 30, 206, 207, 208, 358, 359, 360, 361, 268, 269, 270, 271, 362, 302, 303, 304, 230, 173, 231, 232, 233, 234, 22, 235, 236, 237, 238, 305, 306, 307, 308, 222, 223, 224, 29, 225, 40, 309, 310, 311, 312, 363, 364, 365, 366, 379, 380, 381, 382, 383, 384, 385, 386, 387, 398, 399, 400, 401, 367, 368, 369, 370, 371, 372, 373, 374, 375, 376, 377, 378, 390, 391, 392, 393, 394, 395, 396, 397, 388, 389] rfl (by decide +kernel)) (goodIn_sub (fun _ h => List.mem_append_right _ h) (by decide +kernel))
set_option maxRecDepth 20000 in
theorem gL_law_X4_isSame : GoodIn wsL_law (wsV RL 147 RX4 yX4_isSame wsX4_isSame) := goodIn_app (goodIn_of _ (by decide +kernel)) ggL_law_X4_isSame
abbrev vwCl : List vw_C := [(RX0, TX0, 3), (RX1, TX1, 2), (RX2, TX2, 5), (RX3, TX3, 12), (RX4, TX4, 9), (RX5, TX5, 4)]
