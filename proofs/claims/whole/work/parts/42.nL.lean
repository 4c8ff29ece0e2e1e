theorem ggL_addLorry_X6_addLorry : GoodIn wsL_addLorry wsX6_addLorry := goodIn_ca (goodIn_ca (goodIn_ca (goodIn_ca (goodIn_r _ [7, 8, 9, 10, 11, 12, 13, 14, 15, 6, 16, 17, 18, 19, 20, 21, 22, 23, 24, 25, 26, 27, 28, 29, 30, 31, 32, 33, 34, 35, 36, 37, 38, 39, 40, 41, 42, 43, 44, 45, 46, 47, 48, 49, 50, 51, 52, 53, 54, 55, 56, 57, 58, 59, 60, 61, 62, 63, 64, 65, 66, 67, 68, 69, 70, 71, 72, 73, 74, 75, 76, 77, 78, 79, 80, 81, 82, 83, 84, 85, 86, 87, 88, 89, 90, 91, 92, 93, 94, 95, 96, 97, 98, 99, 100, 101, 102, 103, 104, 105, 106, 107, 108, 109, 110, 111, 112, 113, 114, 115, 116, 117, 118, 119, 120, 121, 122, 123, 124, 125, 126, 127, 128, 129, 130, 131, 132, 133, 134, 135, 136, 137, 138, 139, 140, 141, 142, 143, 144, 145, 146, 147, 148, 149, 150, 151, 152, 153, 154, 155, 156, 157, 158, 159, 160, 161, 162, 163, 164, 165, 166, 167, 168, 169, 170, 171, 172, 173, 174, 175, 176, 177, 178, 179, 180, 181, 182, 183, 184, 185, 186, 187, 188, 189, 190, 191, 192, 193, 194, 195, 196, 197, 198, 199, 200, 201, 202, 203, 204, 205, 206, 207, 208, 209, 210, 211, 212, 213, 214, 215, 216, 217, 218, 219, 220, 221, 222, 223, 224, 225, 226, 227, 228, 229, 230, 231, 232, 233, 234, 235, 236, 237, 238, 239, 240, 241, 242, 243, 244, 245, 246, 247, 248, 249, 250, 251, 252, 253, 254, 255, 256, 257, 258, 259, 260, 261, 262, 263, 264, 265, 266, 267, 268, 269, 270, 271, 272, 273, 274, 275, 276, 277, 278, 279, 280, 281, 282, 283, 284, 285, 286, 287, 288, 289, 290, 291, 292, 293, 294, 295, 296, 297, 298, 299, 300, 301, 302, 303, 304, 305, 306, 307, 308, 309, 310, 311, 312, 313, 314, 315, 316, 317, 318, 319, 320, 321, 322, 323, 324, 325, 326, 327, 328, 329, 330, 331, 332, 333, 334, 335, 336, 337, 338, 339, 340, 341, 342, 343, 344, 345, 346, 347, 348, 349, 350, 351, 352, 353, 354, 355, 356, 357, 358, 359, 360, 361, 362, 363, 364, 365, 366, 367, 368, 369, 370, 371, 372, 373, 374, 375, 376, 377, 378, 379, 380, 381, 382, 383, 384, 385, 386, 387, 388, 389, 390, 391, 392, 393, 394, 395, 396] (by decide +kernel) (by decide +kernel)) (goodIn_sub (fun _ h => List.mem_cons_of_mem _ (List.mem_append_left _ (List.mem_append_left _ (List.mem_append_right _ h)))) (by decide +kernel))) (goodIn_sub (fun _ h => List.mem_cons_of_mem _ (List.mem_append_left _ (List.mem_append_right _ h))) (by decide +kernel))) (goodIn_sub (fun _ h => List.mem_cons_of_mem _ (List.mem_append_right _ h)) (by decide +kernel))) (goodIn_sub (fun _ h => List.mem_cons_of_mem _ (List.mem_append_left _ (List.mem_append_left _ (List.mem_append_left _ (List.mem_append_right _ h))))) (by decide +kernel))
set_option maxRecDepth 20000 in
theorem gL_addLorry_X6_addLorry : GoodIn wsL_addLorry (wsV RL 7 RX6 yX6_addLorry wsX6_addLorry) := goodIn_app (goodIn_of _ (by decide +kernel)) ggL_addLorry_X6_addLorry
theorem dL_addLorry_0 : decode cL_addLorry 0 = .ok (.aload 4, 2) := by decide +kernel
theorem dL_addLorry_2 : decode cL_addLorry 2 = .ok (.iconst 0, 1) := by decide +kernel
theorem dL_addLorry_3 : decode cL_addLorry 3 = .ok (.aload_n 0, 1) := by decide +kernel
theorem dL_addLorry_4 : decode cL_addLorry 4 = .ok (.iload_n 1, 1) := by decide +kernel
theorem dL_addLorry_5 : decode cL_addLorry 5 = .ok (.iload_n 2, 1) := by decide +kernel
theorem dL_addLorry_6 : decode cL_addLorry 6 = .ok (.iload_n 3, 1) := by decide +kernel
theorem dL_addLorry_7 : decode cL_addLorry 7 = .ok (.invokevirtual 7, 3) := by decide +kernel
theorem dL_addLorry_10 : decode cL_addLorry 10 = .ok (.i2l, 1) := by decide +kernel
theorem dL_addLorry_11 : decode cL_addLorry 11 = .ok (.lastore, 1) := by decide +kernel
theorem dL_addLorry_12 : decode cL_addLorry 12 = .ok (.goto 11, 3) := by decide +kernel
theorem dL_addLorry_15 : decode cL_addLorry 15 = .ok (.astore 5, 2) := by decide +kernel
theorem dL_addLorry_17 : decode cL_addLorry 17 = .ok (.iconst 1, 1) := by decide +kernel
theorem dL_addLorry_18 : decode cL_addLorry 18 = .ok (.ireturn, 1) := by decide +kernel
theorem dL_addLorry_19 : decode cL_addLorry 19 = .ok (.astore 5, 2) := by decide +kernel
theorem dL_addLorry_21 : decode cL_addLorry 21 = .ok (.iconst 2, 1) := by decide +kernel
theorem dL_addLorry_22 : decode cL_addLorry 22 = .ok (.ireturn, 1) := by decide +kernel
theorem dL_addLorry_23 : decode cL_addLorry 23 = .ok (.iconst 0, 1) := by decide +kernel
theorem dL_addLorry_24 : decode cL_addLorry 24 = .ok (.ireturn, 1) := by decide +kernel
set_option maxRecDepth 20000 in
theorem ggL_addTransfer_X6_addTransfer : GoodIn wsL_addTransfer wsX6_addTransfer := goodIn_ca (goodIn_ca (goodIn_ca (goodIn_ca (goodIn_r _ [8, 9, 10, 11, 12, 13, 14, 15, 16, 17, 18, 19, 20, 21, 22, 23, 24, 25, 26, 27, 28, 29, 30, 31, 32, 33, 34, 35, 36, 37, 38, 39, 40, 41, 42, 43, 44, 45, 46, 47, 48, 49, 7, 50, 51, 52, 53, 54, 55, 56, 57, 58, 59, 60, 61, 62, 63, 64, 65, 66, 67, 68, 69, 70, 71, 72, 73, 74, 75, 76, 77, 78, 79, 80, 81, 82, 83, 84, 85, 86, 87, 88, 89, 90, 91, 92, 93, 94, 95, 96, 97, 98, 99, 100, 101, 102, 103, 104, 105, 106, 107, 108, 109, 110, 111, 112, 113, 114, 115, 116, 117, 118, 119, 120, 121, 122, 123, 124, 125, 126, 127, 128, 129, 130, 131, 132, 133, 134, 135, 136, 137, 138, 139, 140, 141, 142, 143, 144, 145, 146, 147, 148, 149, 150, 151, 152, 153, 154, 155, 156, 157, 158, 159, 160, 161, 162, 163, 164, 165, 166, 167, 168, 169, 170, 171, 172, 173, 174, 175, 176, 177, 178, 179, 180, 181, 182, 183, 184, 185, 186, 187, 188, 189, 190, 191, 192, 193, 194, 195, 196, 197, 198, 199, 200, 201, 202, 203, 204, 205, 206, 207, 208, 209, 210, 211, 212, 213, 214, 215, 216, 217, 218, 219, 220, 221, 222, 223, 224, 225, 226, 227, 228, 229, 230, 231, 232, 233, 234, 235, 236, 237, 238, 239, 240, 241, 242, 243, 244, 245, 246, 247, 248, 249, 250, 251, 252, 253, 254, 255, 256, 257, 258, 259, 260, 261, 262, 263, 264, 265, 266, 267, 268, 269, 270, 271, 272, 273, 274, 275, 276, 277, 278, 279, 280, 281, 282, 283, 284, 285, 286, 287, 288, 289, 290, 291, 292, 293, 294, 295, 296, 297, 298, 299, 300, 301, 302, 303, 304, 305, 306, 307, 308, 309, 310, 311, 312, 313, 314, 315, 316, 317, 318, 319, 320, 321, 322, 323, 324, 325, 326, 327, 328, 329, 330, 331, 332, 333, 334, 335, 336, 337, 338, 339, 340, 341, 342, 343, 344, 345, 346, 347, 348, 349, 350, 351, 352, 353, 354, 355, 356, 357, 358, 359, 360, 361, 362, 363, 364, 365, 366, 367, 368, 369, 370, 371, 372, 373, 374, 375, 376, 377, 378, 379, 380, 381, 382, 383, 384, 385, 386, 387, 388, 389, 390, 391, 392, 393, 394, 395, 396, 397, 398, 399, 400, 401, 402, 403] (by decide +kernel) (by decide +kernel)) (goodIn_sub (fun _ h => List.mem_cons_of_mem _ (List.mem_append_left _ (List.mem_append_left _ (List.mem_append_right _ h)))) (by decide +kernel))) (goodIn_sub (fun _ h => List.mem_cons_of_mem _ (List.mem_append_left _ (List.mem_append_right _ h))) (by decide +kernel))) (goodIn_sub (fun _ h => List.mem_cons_of_mem _ (List.mem_append_right _ h)) (by decide +kernel))) (goodIn_sub (fun _ h => List.mem_cons_of_mem _ (List.mem_append_left _ (List.mem_append_left _ (List.mem_append_left _ (List.mem_append_right _ h))))) (by decide +kernel))
set_option maxRecDepth 20000 in
theorem gL_addTransfer_X6_addTransfer : GoodIn wsL_addTransfer (wsV RL 17 RX6 yX6_addTransfer wsX6_addTransfer) := goodIn_app (goodIn_of _ (by decide +kernel)) ggL_addTransfer_X6_addTransfer
theorem dL_addTransfer_0 : decode cL_addTransfer 0 = .ok (.aload 4, 2) := by decide +kernel
theorem dL_addTransfer_2 : decode cL_addTransfer 2 = .ok (.iconst 0, 1) := by decide +kernel
theorem dL_addTransfer_3 : decode cL_addTransfer 3 = .ok (.aload_n 0, 1) := by decide +kernel
theorem dL_addTransfer_4 : decode cL_addTransfer 4 = .ok (.iload_n 1, 1) := by decide +kernel
theorem dL_addTransfer_5 : decode cL_addTransfer 5 = .ok (.iload_n 2, 1) := by decide +kernel
theorem dL_addTransfer_6 : decode cL_addTransfer 6 = .ok (.iload_n 3, 1) := by decide +kernel
theorem dL_addTransfer_7 : decode cL_addTransfer 7 = .ok (.invokevirtual 17, 3) := by decide +kernel
theorem dL_addTransfer_10 : decode cL_addTransfer 10 = .ok (.i2l, 1) := by decide +kernel
theorem dL_addTransfer_11 : decode cL_addTransfer 11 = .ok (.lastore, 1) := by decide +kernel
theorem dL_addTransfer_12 : decode cL_addTransfer 12 = .ok (.goto 15, 3) := by decide +kernel
theorem dL_addTransfer_15 : decode cL_addTransfer 15 = .ok (.astore 5, 2) := by decide +kernel
theorem dL_addTransfer_17 : decode cL_addTransfer 17 = .ok (.iconst 1, 1) := by decide +kernel
theorem dL_addTransfer_18 : decode cL_addTransfer 18 = .ok (.ireturn, 1) := by decide +kernel
theorem dL_addTransfer_19 : decode cL_addTransfer 19 = .ok (.astore 5, 2) := by decide +kernel
theorem dL_addTransfer_21 : decode cL_addTransfer 21 = .ok (.iconst 2, 1) := by decide +kernel
theorem dL_addTransfer_22 : decode cL_addTransfer 22 = .ok (.ireturn, 1) := by decide +kernel
theorem dL_addTransfer_23 : decode cL_addTransfer 23 = .ok (.astore 5, 2) := by decide +kernel
theorem dL_addTransfer_25 : decode cL_addTransfer 25 = .ok (.iconst 3, 1) := by decide +kernel
theorem dL_addTransfer_26 : decode cL_addTransfer 26 = .ok (.ireturn, 1) := by decide +kernel
theorem dL_addTransfer_27 : decode cL_addTransfer 27 = .ok (.iconst 0, 1) := by decide +kernel
theorem dL_addTransfer_28 : decode cL_addTransfer 28 = .ok (.ireturn, 1) := by decide +kernel
set_option maxRecDepth 20000 in
theorem ggL_planDoor_X6_planDoor : GoodIn wsL_planDoor wsX6_planDoor := goodIn_ca (goodIn_ca (goodIn_ca (goodIn_ca (goodIn_r _ [7, 8, 9, 10, 11, 12, 13, 14, 15, 16, 17, 18, 19, 20, 21, 22, 23, 24, 25, 26, 27, 28, 29, 30, 31, 32, 33, 34, 35, 36, 37, 38, 39, 40, 41, 42, 43, 44, 6, 45, 46, 47, 48, 49, 50, 51, 52, 53, 54, 55, 56, 57, 58, 59, 60, 61, 62, 63, 64, 65, 66, 67, 68, 69, 70, 71, 72, 73, 74, 75, 76, 77, 78, 79, 80, 81, 82, 83, 84, 85, 86, 87, 88, 89, 90, 91, 92, 93, 94, 95, 96, 97, 98, 99, 100, 101, 102, 103, 104, 105, 106, 107, 108, 109, 110, 111, 112, 113, 114, 115, 116, 117, 118, 119, 120, 121, 122, 123, 124, 125, 126, 127, 128, 129, 130, 131, 132, 133, 134, 135, 136, 137, 138, 139, 140, 141, 142, 143, 144, 145, 146, 147, 148, 149, 150, 151, 152, 153, 154, 155, 156, 157, 158, 159, 160, 161, 162, 163, 164, 165, 166, 167, 168, 169, 170, 171, 172, 173, 174, 175, 176, 177, 178, 179, 180, 181, 182, 183, 184, 185, 186, 187, 188, 189, 190, 191, 192, 193, 194, 195, 196, 197, 198, 199, 200, 201, 202, 203, 204, 205, 206, 207, 208, 209, 210, 211, 212, 213, 214, 215, 216, 217, 218, 219, 220, 221, 222, 223, 224, 225, 226, 227, 228, 229, 230, 231, 232, 233, 234, 235, 236, 237, 238, 239, 240, 241, 242, 243, 244, 245, 246, 247, 248, 249, 250, 251, 252, 253, 254, 255, 256, 257, 258, 259, 260, 261, 262, 263, 264, 265, 266, 267, 268, 269, 270, 271, 272, 273, 274, 275, 276, 277, 278, 279, 280, 281, 282, 283, 284, 285, 286, 287, 288, 289, 290, 291, 292, 293, 294, 295, 296, 297, 298, 299, 300, 301, 302, 303, 304, 305, 306, 307, 308, 309, 310, 311, 312, 313, 314, 315, 316, 317, 318, 319, 320, 321, 322, 323, 324, 325, 326, 327, 328, 329, 330, 331, 332, 333, 334, 335, 336, 337, 338, 339, 340, 341, 342, 343, 344, 345, 346, 347, 348, 349, 350, 351, 352, 353, 354, 355, 356, 357, 358, 359, 360, 361, 362, 363, 364, 365, 366, 367, 368, 369, 370, 371, 372, 373, 374, 375, 376, 377, 378, 379, 380, 381, 382, 383, 384, 385, 386, 387, 388, 389, 390, 391, 392, 393, 394, 395, 396, 397, 398, 399, 400, 401, 402] (by decide +kernel) (by decide +kernel)) (goodIn_sub (fun _ h => List.mem_cons_of_mem _ (List.mem_append_left _ (List.mem_append_left _ (List.mem_append_right _ h)))) (by decide +kernel))) (goodIn_sub (fun _ h => List.mem_cons_of_mem _ (List.mem_append_left _ (List.mem_append_right _ h))) (by decide +kernel))) (goodIn_sub (fun _ h => List.mem_cons_of_mem _ (List.mem_append_right _ h)) (by decide +kernel))) (goodIn_sub (fun _ h => List.mem_cons_of_mem _ (List.mem_append_left _ (List.mem_append_left _ (List.mem_append_left _ (List.mem_append_right _ h))))) (by decide +kernel))
set_option maxRecDepth 20000 in
theorem gL_planDoor_X6_planDoor : GoodIn wsL_planDoor (wsV RL 23 RX6 yX6_planDoor wsX6_planDoor) := goodIn_app (goodIn_of _ (by decide +kernel)) ggL_planDoor_X6_planDoor
theorem dL_planDoor_0 : decode cL_planDoor 0 = .ok (.aload_n 3, 1) := by decide +kernel
theorem dL_planDoor_1 : decode cL_planDoor 1 = .ok (.iconst 0, 1) := by decide +kernel
theorem dL_planDoor_2 : decode cL_planDoor 2 = .ok (.aload_n 0, 1) := by decide +kernel
theorem dL_planDoor_3 : decode cL_planDoor 3 = .ok (.iload_n 1, 1) := by decide +kernel
theorem dL_planDoor_4 : decode cL_planDoor 4 = .ok (.iload_n 2, 1) := by decide +kernel
theorem dL_planDoor_5 : decode cL_planDoor 5 = .ok (.invokevirtual 23, 3) := by decide +kernel
theorem dL_planDoor_8 : decode cL_planDoor 8 = .ok (.i2l, 1) := by decide +kernel
theorem dL_planDoor_9 : decode cL_planDoor 9 = .ok (.lastore, 1) := by decide +kernel
theorem dL_planDoor_10 : decode cL_planDoor 10 = .ok (.goto 11, 3) := by decide +kernel
theorem dL_planDoor_13 : decode cL_planDoor 13 = .ok (.astore 4, 2) := by decide +kernel
theorem dL_planDoor_15 : decode cL_planDoor 15 = .ok (.iconst 1, 1) := by decide +kernel
theorem dL_planDoor_16 : decode cL_planDoor 16 = .ok (.ireturn, 1) := by decide +kernel
theorem dL_planDoor_17 : decode cL_planDoor 17 = .ok (.astore 4, 2) := by decide +kernel
theorem dL_planDoor_19 : decode cL_planDoor 19 = .ok (.iconst 2, 1) := by decide +kernel
theorem dL_planDoor_20 : decode cL_planDoor 20 = .ok (.ireturn, 1) := by decide +kernel
theorem dL_planDoor_21 : decode cL_planDoor 21 = .ok (.iconst 0, 1) := by decide +kernel
theorem dL_planDoor_22 : decode cL_planDoor 22 = .ok (.ireturn, 1) := by decide +kernel
set_option maxRecDepth 20000 in
theorem ggL_arrive_X6_arrive : GoodIn wsL_arrive wsX6_arrive := goodIn_ca (goodIn_ca (goodIn_ca (goodIn_ca (goodIn_r _ [8, 9, 10, 11, 12, 13, 14, 15, 16, 17, 18, 19, 20, 21, 22, 23, 24, 25, 26, 27, 28, 29, 30, 31, 32, 33, 34, 35, 36, 37, 38, 39, 40, 41, 42, 43, 44, 45, 46, 47, 48, 49, 50, 7, 51, 52, 53, 54, 55, 56, 57, 58, 59, 60, 61, 62, 63, 64, 65, 66, 67, 68, 69, 70, 71, 72, 73, 74, 75, 76, 77, 78, 79, 80, 81, 82, 83, 84, 85, 86, 87, 88, 89, 90, 91, 92, 93, 94, 95, 96, 97, 98, 99, 100, 101, 102, 103, 104, 105, 106, 107, 108, 109, 110, 111, 112, 113, 114, 115, 116, 117, 118, 119, 120, 121, 122, 123, 124, 125, 126, 127, 128, 129, 130, 131, 132, 133, 134, 135, 136, 137, 138, 139, 140, 141, 142, 143, 144, 145, 146, 147, 148, 149, 150, 151, 152, 153, 154, 155, 156, 157, 158, 159, 160, 161, 162, 163, 164, 165, 166, 167, 168, 169, 170, 171, 172, 173, 174, 175, 176, 177, 178, 179, 180, 181, 182, 183, 184, 185, 186, 187, 188, 189, 190, 191, 192, 193, 194, 195, 196, 197, 198, 199, 200, 201, 202, 203, 204, 205, 206, 207, 208, 209, 210, 211, 212, 213, 214, 215, 216, 217, 218, 219, 220, 221, 222, 223, 224, 225, 226, 227, 228, 229, 230, 231, 232, 233, 234, 235, 236, 237, 238, 239, 240, 241, 242, 243, 244, 245, 246, 247, 248, 249, 250, 251, 252, 253, 254, 255, 256, 257, 258, 259, 260, 261, 262, 263, 264, 265, 266, 267, 268, 269, 270, 271, 272, 273, 274, 275, 276, 277, 278, 279, 280, 281, 282, 283, 284, 285, 286, 287, 288, 289, 290, 291, 292, 293, 294, 295, 296, 297, 298, 299, 300, 301, 302, 303, 304, 305, 306, 307, 308, 309, 310, 311, 312, 313, 314, 315, 316, 317, 318, 319, 320, 321, 322, 323, 324, 325, 326, 327, 328, 329, 330, 331, 332, 333, 334, 335, 336, 337, 338, 339, 340, 341, 342, 343, 344, 345, 346, 347, 348, 349, 350, 351, 352, 353, 354, 355, 356, 357, 358, 359, 360, 361, 362, 363, 364, 365, 366, 367, 368, 369, 370, 371, 372, 373, 374, 375, 376, 377, 378, 379, 380, 381, 382, 383, 384, 385, 386, 387, 388, 389, 390, 391, 392, 393, 394, 395, 396] (by decide +kernel) (by decide +kernel)) (goodIn_sub (fun _ h => List.mem_cons_of_mem _ (List.mem_append_left _ (List.mem_append_left _ (List.mem_append_right _ h)))) (by decide +kernel))) (goodIn_sub (fun _ h => List.mem_cons_of_mem _ (List.mem_append_left _ (List.mem_append_right _ h))) (by decide +kernel))) (goodIn_sub (fun _ h => List.mem_cons_of_mem _ (List.mem_append_right _ h)) (by decide +kernel))) (goodIn_sub (fun _ h => List.mem_cons_of_mem _ (List.mem_append_left _ (List.mem_append_left _ (List.mem_append_left _ (List.mem_append_right _ h))))) (by decide +kernel))
set_option maxRecDepth 20000 in
theorem gL_arrive_X6_arrive : GoodIn wsL_arrive (wsV RL 27 RX6 yX6_arrive wsX6_arrive) := goodIn_app (goodIn_of _ (by decide +kernel)) ggL_arrive_X6_arrive
theorem dL_arrive_0 : decode cL_arrive 0 = .ok (.aload_n 2, 1) := by decide +kernel
theorem dL_arrive_1 : decode cL_arrive 1 = .ok (.iconst 0, 1) := by decide +kernel
theorem dL_arrive_2 : decode cL_arrive 2 = .ok (.aload_n 0, 1) := by decide +kernel
theorem dL_arrive_3 : decode cL_arrive 3 = .ok (.iload_n 1, 1) := by decide +kernel
theorem dL_arrive_4 : decode cL_arrive 4 = .ok (.invokevirtual 27, 3) := by decide +kernel
theorem dL_arrive_7 : decode cL_arrive 7 = .ok (.i2l, 1) := by decide +kernel
theorem dL_arrive_8 : decode cL_arrive 8 = .ok (.lastore, 1) := by decide +kernel
theorem dL_arrive_9 : decode cL_arrive 9 = .ok (.goto 12, 3) := by decide +kernel
theorem dL_arrive_12 : decode cL_arrive 12 = .ok (.astore_n 3, 1) := by decide +kernel
theorem dL_arrive_13 : decode cL_arrive 13 = .ok (.iconst 1, 1) := by decide +kernel
theorem dL_arrive_14 : decode cL_arrive 14 = .ok (.ireturn, 1) := by decide +kernel
theorem dL_arrive_15 : decode cL_arrive 15 = .ok (.astore_n 3, 1) := by decide +kernel
theorem dL_arrive_16 : decode cL_arrive 16 = .ok (.iconst 2, 1) := by decide +kernel
theorem dL_arrive_17 : decode cL_arrive 17 = .ok (.ireturn, 1) := by decide +kernel
theorem dL_arrive_18 : decode cL_arrive 18 = .ok (.astore_n 3, 1) := by decide +kernel
theorem dL_arrive_19 : decode cL_arrive 19 = .ok (.iconst 3, 1) := by decide +kernel
theorem dL_arrive_20 : decode cL_arrive 20 = .ok (.ireturn, 1) := by decide +kernel
theorem dL_arrive_21 : decode cL_arrive 21 = .ok (.iconst 0, 1) := by decide +kernel
theorem dL_arrive_22 : decode cL_arrive 22 = .ok (.ireturn, 1) := by decide +kernel
set_option maxRecDepth 20000 in
theorem ggL_sendOff_X6_sendOff : GoodIn wsL_sendOff wsX6_sendOff := goodIn_ca (goodIn_ca (goodIn_ca (goodIn_r _ [7, 8, 9, 10, 11, 12, 13, 14, 15, 16, 17, 18, 19, 20, 21, 22, 23, 24, 25, 26, 27, 28, 29, 30, 31, 32, 33, 34, 35, 36, 37, 38, 39, 40, 41, 42, 43, 44, 45, 46, 47, 48, 49, 50, 51, 6, 52, 53, 54, 55, 56, 57, 58, 59, 60, 61, 62, 63, 64, 65, 66, 67, 68, 69, 70, 71, 72, 73, 74, 75, 76, 77, 78, 79, 80, 81, 82, 83, 84, 85, 86, 87, 88, 89, 90, 91, 92, 93, 94, 95, 96, 97, 98, 99, 100, 101, 102, 103, 104, 105, 106, 107, 108, 109, 110, 111, 112, 113, 114, 115, 116, 117, 118, 119, 120, 121, 122, 123, 124, 125, 126, 127, 128, 129, 130, 131, 132, 133, 134, 135, 136, 137, 138, 139, 140, 141, 142, 143, 144, 145, 146, 147, 148, 149, 150, 151, 152, 153, 154, 155, 156, 157, 158, 159, 160, 161, 162, 163, 164, 165, 166, 167, 168, 169, 170, 171, 172, 173, 174, 175, 176, 177, 178, 179, 180, 181, 182, 183, 184, 185, 186, 187, 188, 189, 190, 191, 192, 193, 194, 195, 196, 197, 198, 199, 200, 201, 202, 203, 204, 205, 206, 207, 208, 209, 210, 211, 212, 213, 214, 215, 216, 217, 218, 219, 220, 221, 222, 223, 224, 225, 226, 227, 228, 229, 230, 231, 232, 233, 234, 235, 236, 237, 238, 239, 240, 241, 242, 243, 244, 245, 246, 247, 248, 249, 250, 251, 252, 253, 254, 255, 256, 257, 258, 259, 260, 261, 262, 263, 264, 265, 266, 267, 268, 269, 270, 271, 272, 273, 274, 275, 276, 277, 278, 279, 280, 281, 282, 283, 284, 285, 286, 287, 288, 289, 290, 291, 292, 293, 294, 295, 296, 297, 298, 299, 300, 301, 302, 303, 304, 305, 306, 307, 308, 309, 310, 311, 312, 313, 314, 315, 316, 317, 318, 319, 320, 321, 322, 323, 324, 325, 326, 327, 328, 329, 330, 331, 332, 333, 334, 335, 336, 337, 338, 339, 340, 341, 342, 343, 344, 345, 346, 347, 348, 349, 350, 351, 352, 353, 354, 355, 356, 357, 358, 359, 360, 361, 362, 363, 364, 365, 366, 367, 368, 369, 370, 371, 372, 373, 374, 375, 376, 377, 378, 379, 380, 381, 382, 383, 384, 385, 386, 387, 388, 389, 390, 391, 392] (by decide +kernel) (by decide +kernel)) (goodIn_sub (fun _ h => List.mem_cons_of_mem _ (List.mem_append_left _ (List.mem_append_right _ h))) (by decide +kernel))) (goodIn_sub (fun _ h => List.mem_cons_of_mem _ (List.mem_append_right _ h)) (by decide +kernel))) (goodIn_sub (fun _ h => List.mem_cons_of_mem _ (List.mem_append_left _ (List.mem_append_left _ (List.mem_append_right _ h)))) (by decide +kernel))
set_option maxRecDepth 20000 in
theorem gL_sendOff_X6_sendOff : GoodIn wsL_sendOff (wsV RL 33 RX6 yX6_sendOff wsX6_sendOff) := goodIn_app (goodIn_of _ (by decide +kernel)) ggL_sendOff_X6_sendOff
theorem dL_sendOff_0 : decode cL_sendOff 0 = .ok (.aload_n 2, 1) := by decide +kernel
theorem dL_sendOff_1 : decode cL_sendOff 1 = .ok (.iconst 0, 1) := by decide +kernel
theorem dL_sendOff_2 : decode cL_sendOff 2 = .ok (.aload_n 0, 1) := by decide +kernel
theorem dL_sendOff_3 : decode cL_sendOff 3 = .ok (.iload_n 1, 1) := by decide +kernel
theorem dL_sendOff_4 : decode cL_sendOff 4 = .ok (.invokevirtual 33, 3) := by decide +kernel
theorem dL_sendOff_7 : decode cL_sendOff 7 = .ok (.i2l, 1) := by decide +kernel
theorem dL_sendOff_8 : decode cL_sendOff 8 = .ok (.lastore, 1) := by decide +kernel
theorem dL_sendOff_9 : decode cL_sendOff 9 = .ok (.goto 9, 3) := by decide +kernel
theorem dL_sendOff_12 : decode cL_sendOff 12 = .ok (.astore_n 3, 1) := by decide +kernel
theorem dL_sendOff_13 : decode cL_sendOff 13 = .ok (.iconst 1, 1) := by decide +kernel
theorem dL_sendOff_14 : decode cL_sendOff 14 = .ok (.ireturn, 1) := by decide +kernel
theorem dL_sendOff_15 : decode cL_sendOff 15 = .ok (.astore_n 3, 1) := by decide +kernel
theorem dL_sendOff_16 : decode cL_sendOff 16 = .ok (.iconst 2, 1) := by decide +kernel
theorem dL_sendOff_17 : decode cL_sendOff 17 = .ok (.ireturn, 1) := by decide +kernel
theorem dL_sendOff_18 : decode cL_sendOff 18 = .ok (.iconst 0, 1) := by decide +kernel
theorem dL_sendOff_19 : decode cL_sendOff 19 = .ok (.ireturn, 1) := by decide +kernel
set_option maxRecDepth 20000 in
theorem ggL_addGang_X6_addGang : GoodIn wsL_addGang wsX6_addGang := goodIn_ca (goodIn_ca (goodIn_ca (goodIn_ca (goodIn_r _ [7, 8, 9, 10, 11, 12, 13, 14, 15, 6, 16, 17, 18, 19, 20, 21, 22, 23, 24, 25, 26, 27, 28, 29, 30, 31, 32, 33, 34, 35, 36, 37, 38, 39, 40, 41, 42, 43, 44, 45, 46, 47, 48, 49, 50, 51, 52, 53, 54, 55, 56, 57, 58, 59, 60, 61, 62, 63, 64, 65, 66, 67, 68, 69, 70, 71, 72, 73, 74, 75, 76, 77, 78, 79, 80, 81, 82, 83, 84, 85, 86, 87, 88, 89, 90, 91, 92, 93, 94, 95, 96, 97, 98, 99, 100, 101, 102, 103, 104, 105, 106, 107, 108, 109, 110, 111, 112, 113, 114, 115, 116, 117, 118, 119, 120, 121, 122, 123, 124, 125, 126, 127, 128, 129, 130, 131, 132, 133, 134, 135, 136, 137, 138, 139, 140, 141, 142, 143, 144, 145, 146, 147, 148, 149, 150, 151, 152, 153, 154, 155, 156, 157, 158, 159, 160, 161, 162, 163, 164, 165, 166, 167, 168, 169, 170, 171, 172, 173, 174, 175, 176, 177, 178, 179, 180, 181, 182, 183, 184, 185, 186, 187, 188, 189, 190, 191, 192, 193, 194, 195, 196, 197, 198, 199, 200, 201, 202, 203, 204, 205, 206, 207, 208, 209, 210, 211, 212, 213, 214, 215, 216, 217, 218, 219, 220, 221, 222, 223, 224, 225, 226, 227, 228, 229, 230, 231, 232, 233, 234, 235, 236, 237, 238, 239, 240, 241, 242, 243, 244, 245, 246, 247, 248, 249, 250, 251, 252, 253, 254, 255, 256, 257, 258, 259, 260, 261, 262, 263, 264, 265, 266, 267, 268, 269, 270, 271, 272, 273, 274, 275, 276, 277, 278, 279, 280, 281, 282, 283, 284, 285, 286, 287, 288, 289, 290, 291, 292, 293, 294, 295, 296, 297, 298, 299, 300, 301, 302, 303, 304, 305, 306, 307, 308, 309, 310, 311, 312, 313, 314, 315, 316, 317, 318, 319, 320, 321, 322, 323, 324, 325, 326, 327, 328, 329, 330, 331, 332, 333, 334, 335, 336, 337, 338, 339, 340, 341, 342, 343, 344, 345, 346, 347, 348, 349, 350, 351, 352, 353, 354, 355, 356, 357, 358, 359, 360, 361, 362, 363, 364, 365, 366, 367, 368, 369, 370, 371, 372, 373, 374, 375, 376, 377, 378, 379, 380, 381, 382, 383, 384, 385, 386, 387, 388, 389, 390, 391, 392, 393, 394, 395, 396] (by decide +kernel) (by decide +kernel)) (goodIn_sub (fun _ h => List.mem_cons_of_mem _ (List.mem_append_left _ (List.mem_append_left _ (List.mem_append_right _ h)))) (by decide +kernel))) (goodIn_sub (fun _ h => List.mem_cons_of_mem _ (List.mem_append_left _ (List.mem_append_right _ h))) (by decide +kernel))) (goodIn_sub (fun _ h => List.mem_cons_of_mem _ (List.mem_append_right _ h)) (by decide +kernel))) (goodIn_sub (fun _ h => List.mem_cons_of_mem _ (List.mem_append_left _ (List.mem_append_left _ (List.mem_append_left _ (List.mem_append_right _ h))))) (by decide +kernel))
set_option maxRecDepth 20000 in
theorem gL_addGang_X6_addGang : GoodIn wsL_addGang (wsV RL 36 RX6 yX6_addGang wsX6_addGang) := goodIn_app (goodIn_of _ (by decide +kernel)) ggL_addGang_X6_addGang
theorem dL_addGang_0 : decode cL_addGang 0 = .ok (.aload 4, 2) := by decide +kernel
theorem dL_addGang_2 : decode cL_addGang 2 = .ok (.iconst 0, 1) := by decide +kernel
theorem dL_addGang_3 : decode cL_addGang 3 = .ok (.aload_n 0, 1) := by decide +kernel
theorem dL_addGang_4 : decode cL_addGang 4 = .ok (.iload_n 1, 1) := by decide +kernel
theorem dL_addGang_5 : decode cL_addGang 5 = .ok (.iload_n 2, 1) := by decide +kernel
theorem dL_addGang_6 : decode cL_addGang 6 = .ok (.iload_n 3, 1) := by decide +kernel
theorem dL_addGang_7 : decode cL_addGang 7 = .ok (.invokevirtual 36, 3) := by decide +kernel
theorem dL_addGang_10 : decode cL_addGang 10 = .ok (.i2l, 1) := by decide +kernel
theorem dL_addGang_11 : decode cL_addGang 11 = .ok (.lastore, 1) := by decide +kernel
theorem dL_addGang_12 : decode cL_addGang 12 = .ok (.goto 11, 3) := by decide +kernel
theorem dL_addGang_15 : decode cL_addGang 15 = .ok (.astore 5, 2) := by decide +kernel
theorem dL_addGang_17 : decode cL_addGang 17 = .ok (.iconst 1, 1) := by decide +kernel
theorem dL_addGang_18 : decode cL_addGang 18 = .ok (.ireturn, 1) := by decide +kernel
theorem dL_addGang_19 : decode cL_addGang 19 = .ok (.astore 5, 2) := by decide +kernel
theorem dL_addGang_21 : decode cL_addGang 21 = .ok (.iconst 2, 1) := by decide +kernel
theorem dL_addGang_22 : decode cL_addGang 22 = .ok (.ireturn, 1) := by decide +kernel
theorem dL_addGang_23 : decode cL_addGang 23 = .ok (.iconst 0, 1) := by decide +kernel
theorem dL_addGang_24 : decode cL_addGang 24 = .ok (.ireturn, 1) := by decide +kernel
set_option maxRecDepth 20000 in
theorem ggL_moveGang_X6_moveGang : GoodIn wsL_moveGang wsX6_moveGang := goodIn_ca (goodIn_ca (goodIn_ca (goodIn_r _ [6, 7, 8, 9, 10, 11, 12, 13, 14, 15, 16, 17, 18, 19, 20, 21, 22, 23, 24, 25, 26, 27, 28, 29, 30, 31, 32, 33, 34, 35, 36, 37, 38, 39, 40, 41, 5, 42, 43, 44, 45, 46, 47, 48, 49, 50, 51, 52, 53, 54, 55, 56, 57, 58, 59, 60, 61, 62, 63, 64, 65, 66, 67, 68, 69, 70, 71, 72, 73, 74, 75, 76, 77, 78, 79, 80, 81, 82, 83, 84, 85, 86, 87, 88, 89, 90, 91, 92, 93, 94, 95, 96, 97, 98, 99, 100, 101, 102, 103, 104, 105, 106, 107, 108, 109, 110, 111, 112, 113, 114, 115, 116, 117, 118, 119, 120, 121, 122, 123, 124, 125, 126, 127, 128, 129, 130, 131, 132, 133, 134, 135, 136, 137, 138, 139, 140, 141, 142, 143, 144, 145, 146, 147, 148, 149, 150, 151, 152, 153, 154, 155, 156, 157, 158, 159, 160, 161, 162, 163, 164, 165, 166, 167, 168, 169, 170, 171, 172, 173, 174, 175, 176, 177, 178, 179, 180, 181, 182, 183, 184, 185, 186, 187, 188, 189, 190, 191, 192, 193, 194, 195, 196, 197, 198, 199, 200, 201, 202, 203, 204, 205, 206, 207, 208, 209, 210, 211, 212, 213, 214, 215, 216, 217, 218, 219, 220, 221, 222, 223, 224, 225, 226, 227, 228, 229, 230, 231, 232, 233, 234, 235, 236, 237, 238, 239, 240, 241, 242, 243, 244, 245, 246, 247, 248, 249, 250, 251, 252, 253, 254, 255, 256, 257, 258, 259, 260, 261, 262, 263, 264, 265, 266, 267, 268, 269, 270, 271, 272, 273, 274, 275, 276, 277, 278, 279, 280, 281, 282, 283, 284, 285, 286, 287, 288, 289, 290, 291, 292, 293, 294, 295, 296, 297, 298, 299, 300, 301, 302, 303, 304, 305, 306, 307, 308, 309, 310, 311, 312, 313, 314, 315, 316, 317, 318, 319, 320, 321, 322, 323, 324, 325, 326, 327, 328, 329, 330, 331, 332, 333, 334, 335, 336, 337, 338, 339, 340, 341, 342, 343, 344, 345, 346, 347, 348, 349, 350, 351, 352, 353, 354, 355, 356, 357, 358, 359, 360, 361, 362, 363, 364, 365, 366, 367, 368, 369, 370, 371, 372, 373, 374, 375, 376, 377, 378, 379, 380, 381, 382, 383, 384, 385, 386, 387, 388, 389, 390, 391, 392, 393, 394, 395] (by decide +kernel) (by decide +kernel)) (goodIn_sub (fun _ h => List.mem_cons_of_mem _ (List.mem_append_left _ (List.mem_append_right _ h))) (by decide +kernel))) (goodIn_sub (fun _ h => List.mem_cons_of_mem _ (List.mem_append_right _ h)) (by decide +kernel))) (goodIn_sub (fun _ h => List.mem_cons_of_mem _ (List.mem_append_left _ (List.mem_append_left _ (List.mem_append_right _ h)))) (by decide +kernel))
set_option maxRecDepth 20000 in
theorem gL_moveGang_X6_moveGang : GoodIn wsL_moveGang (wsV RL 39 RX6 yX6_moveGang wsX6_moveGang) := goodIn_app (goodIn_of _ (by decide +kernel)) ggL_moveGang_X6_moveGang
theorem dL_moveGang_0 : decode cL_moveGang 0 = .ok (.aload_n 3, 1) := by decide +kernel
theorem dL_moveGang_1 : decode cL_moveGang 1 = .ok (.iconst 0, 1) := by decide +kernel
theorem dL_moveGang_2 : decode cL_moveGang 2 = .ok (.aload_n 0, 1) := by decide +kernel
theorem dL_moveGang_3 : decode cL_moveGang 3 = .ok (.iload_n 1, 1) := by decide +kernel
theorem dL_moveGang_4 : decode cL_moveGang 4 = .ok (.iload_n 2, 1) := by decide +kernel
theorem dL_moveGang_5 : decode cL_moveGang 5 = .ok (.invokevirtual 39, 3) := by decide +kernel
theorem dL_moveGang_8 : decode cL_moveGang 8 = .ok (.i2l, 1) := by decide +kernel
theorem dL_moveGang_9 : decode cL_moveGang 9 = .ok (.lastore, 1) := by decide +kernel
theorem dL_moveGang_10 : decode cL_moveGang 10 = .ok (.goto 7, 3) := by decide +kernel
theorem dL_moveGang_13 : decode cL_moveGang 13 = .ok (.astore 4, 2) := by decide +kernel
theorem dL_moveGang_15 : decode cL_moveGang 15 = .ok (.iconst 1, 1) := by decide +kernel
theorem dL_moveGang_16 : decode cL_moveGang 16 = .ok (.ireturn, 1) := by decide +kernel
theorem dL_moveGang_17 : decode cL_moveGang 17 = .ok (.iconst 0, 1) := by decide +kernel
theorem dL_moveGang_18 : decode cL_moveGang 18 = .ok (.ireturn, 1) := by decide +kernel
set_option maxRecDepth 20000 in
theorem ggL_pass_X6_pass : GoodIn wsL_pass wsX6_pass := goodIn_ca (goodIn_ca (goodIn_ca (goodIn_ca (goodIn_r _ [7, 8, 9, 10, 11, 12, 13, 14, 15, 6, 16, 17, 18, 19, 20, 21, 22, 23, 24, 25, 26, 27, 28, 29, 30, 31, 32, 33, 34, 35, 36, 37, 38, 39, 40, 41, 42, 43, 44, 45, 46, 47, 48, 49, 50, 51, 52, 53, 54, 55, 56, 57, 58, 59, 60, 61, 62, 63, 64, 65, 66, 67, 68, 69, 70, 71, 72, 73, 74, 75, 76, 77, 78, 79, 80, 81, 82, 83, 84, 85, 86, 87, 88, 89, 90, 91, 92, 93, 94, 95, 96, 97, 98, 99, 100, 101, 102, 103, 104, 105, 106, 107, 108, 109, 110, 111, 112, 113, 114, 115, 116, 117, 118, 119, 120, 121, 122, 123, 124, 125, 126, 127, 128, 129, 130, 131, 132, 133, 134, 135, 136, 137, 138, 139, 140, 141, 142, 143, 144, 145, 146, 147, 148, 149, 150, 151, 152, 153, 154, 155, 156, 157, 158, 159, 160, 161, 162, 163, 164, 165, 166, 167, 168, 169, 170, 171, 172, 173, 174, 175, 176, 177, 178, 179, 180, 181, 182, 183, 184, 185, 186, 187, 188, 189, 190, 191, 192, 193, 194, 195, 196, 197, 198, 199, 200, 201, 202, 203, 204, 205, 206, 207, 208, 209, 210, 211, 212, 213, 214, 215, 216, 217, 218, 219, 220, 221, 222, 223, 224, 225, 226, 227, 228, 229, 230, 231, 232, 233, 234, 235, 236, 237, 238, 239, 240, 241, 242, 243, 244, 245, 246, 247, 248, 249, 250, 251, 252, 253, 254, 255, 256, 257, 258, 259, 260, 261, 262, 263, 264, 265, 266, 267, 268, 269, 270, 271, 272, 273, 274, 275, 276, 277, 278, 279, 280, 281, 282, 283, 284, 285, 286, 287, 288, 289, 290, 291, 292, 293, 294, 295, 296, 297, 298, 299, 300, 301, 302, 303, 304, 305, 306, 307, 308, 309, 310, 311, 312, 313, 314, 315, 316, 317, 318, 319, 320, 321, 322, 323, 324, 325, 326, 327, 328, 329, 330, 331, 332, 333, 334, 335, 336, 337, 338, 339, 340, 341, 342, 343, 344, 345, 346, 347, 348, 349, 350, 351, 352, 353, 354, 355, 356, 357, 358, 359, 360, 361, 362, 363, 364, 365, 366, 367, 368, 369, 370, 371, 372, 373, 374, 375, 376, 377, 378, 379, 380, 381, 382, 383, 384, 385, 386, 387, 388, 389, 390, 391, 392, 393, 394, 395, 396] (by decide +kernel) (by decide +kernel)) (goodIn_sub (fun _ h => List.mem_cons_of_mem _ (List.mem_append_left _ (List.mem_append_left _ (List.mem_append_right _ h)))) (by decide +kernel))) (goodIn_sub (fun _ h => List.mem_cons_of_mem _ (List.mem_append_left _ (List.mem_append_right _ h))) (by decide +kernel))) (goodIn_sub (fun _ h => List.mem_cons_of_mem _ (List.mem_append_right _ h)) (by decide +kernel))) (goodIn_sub (fun _ h => List.mem_cons_of_mem _ (List.mem_append_left _ (List.mem_append_left _ (List.mem_append_left _ (List.mem_append_right _ h))))) (by decide +kernel))
set_option maxRecDepth 20000 in
theorem gL_pass_X6_pass : GoodIn wsL_pass (wsV RL 42 RX6 yX6_pass wsX6_pass) := goodIn_app (goodIn_of _ (by decide +kernel)) ggL_pass_X6_pass
theorem dL_pass_0 : decode cL_pass 0 = .ok (.aload_n 2, 1) := by decide +kernel
theorem dL_pass_1 : decode cL_pass 1 = .ok (.iconst 0, 1) := by decide +kernel
theorem dL_pass_2 : decode cL_pass 2 = .ok (.aload_n 0, 1) := by decide +kernel
theorem dL_pass_3 : decode cL_pass 3 = .ok (.iload_n 1, 1) := by decide +kernel
theorem dL_pass_4 : decode cL_pass 4 = .ok (.invokevirtual 42, 3) := by decide +kernel
theorem dL_pass_7 : decode cL_pass 7 = .ok (.i2l, 1) := by decide +kernel
theorem dL_pass_8 : decode cL_pass 8 = .ok (.lastore, 1) := by decide +kernel
theorem dL_pass_9 : decode cL_pass 9 = .ok (.goto 9, 3) := by decide +kernel
theorem dL_pass_12 : decode cL_pass 12 = .ok (.astore_n 3, 1) := by decide +kernel
theorem dL_pass_13 : decode cL_pass 13 = .ok (.iconst 1, 1) := by decide +kernel
theorem dL_pass_14 : decode cL_pass 14 = .ok (.ireturn, 1) := by decide +kernel
theorem dL_pass_15 : decode cL_pass 15 = .ok (.astore_n 3, 1) := by decide +kernel
theorem dL_pass_16 : decode cL_pass 16 = .ok (.iconst 2, 1) := by decide +kernel
theorem dL_pass_17 : decode cL_pass 17 = .ok (.ireturn, 1) := by decide +kernel
theorem dL_pass_18 : decode cL_pass 18 = .ok (.iconst 0, 1) := by decide +kernel
theorem dL_pass_19 : decode cL_pass 19 = .ok (.ireturn, 1) := by decide +kernel
set_option maxRecDepth 20000 in
theorem ggL_power_X6_power : GoodIn wsL_power wsX6_power := goodIn_ca (goodIn_r _ [6, 7, 8, 9, 5, 10, 11, 12, 13, 14, 15, 16, 17, 18, 19, 20, 21, 22, 23, 24, 25, 26, 27, 28, 29, 30, 31, 32, 33, 34, 35, 36, 37, 38, 39, 40, 41, 42, 43, 44, 45, 46, 47, 48, 49, 50, 51, 52, 53, 54, 55, 56, 57, 58, 59, 60, 61, 62, 63, 64, 65, 66, 67, 68, 69] (by decide +kernel) (by decide +kernel)) (goodIn_sub (fun _ h => List.mem_cons_of_mem _ (List.mem_append_right _ h)) (by decide +kernel))
set_option maxRecDepth 20000 in
theorem gL_power_X6_power : GoodIn wsL_power (wsV RL 45 RX6 yX6_power wsX6_power) := goodIn_app (goodIn_of _ (by decide +kernel)) ggL_power_X6_power
theorem dL_power_0 : decode cL_power 0 = .ok (.aload_n 2, 1) := by decide +kernel
theorem dL_power_1 : decode cL_power 1 = .ok (.iconst 0, 1) := by decide +kernel
theorem dL_power_2 : decode cL_power 2 = .ok (.aload_n 0, 1) := by decide +kernel
theorem dL_power_3 : decode cL_power 3 = .ok (.iload_n 1, 1) := by decide +kernel
theorem dL_power_4 : decode cL_power 4 = .ok (.invokevirtual 45, 3) := by decide +kernel
theorem dL_power_7 : decode cL_power 7 = .ok (.i2l, 1) := by decide +kernel
theorem dL_power_8 : decode cL_power 8 = .ok (.lastore, 1) := by decide +kernel
theorem dL_power_9 : decode cL_power 9 = .ok (.goto 6, 3) := by decide +kernel
theorem dL_power_12 : decode cL_power 12 = .ok (.astore_n 3, 1) := by decide +kernel
theorem dL_power_13 : decode cL_power 13 = .ok (.iconst 1, 1) := by decide +kernel
theorem dL_power_14 : decode cL_power 14 = .ok (.ireturn, 1) := by decide +kernel
theorem dL_power_15 : decode cL_power 15 = .ok (.iconst 0, 1) := by decide +kernel
theorem dL_power_16 : decode cL_power 16 = .ok (.ireturn, 1) := by decide +kernel
set_option maxRecDepth 20000 in
theorem ggL_stateOf_X6_stateOf : GoodIn wsL_stateOf wsX6_stateOf := goodIn_ca (goodIn_r _ [6, 7, 8, 9, 10, 11, 12, 13, 14, 15, 16, 17, 18, 19, 20, 21, 22, 23, 24, 25, 26, 27, 28, 29, 30, 31, 32, 33, 34, 35, 36, 37, 38, 39, 40, 41, 42, 43, 44, 45, 46, 47, 48, 49, 50, 51, 52, 53, 54, 55, 56, 57, 58, 59, 60, 61, 62, 63, 64, 65] (by decide +kernel) (by decide +kernel)) (goodIn_sub (fun _ h => List.mem_cons_of_mem _ (List.mem_append_right _ h)) (by decide +kernel))
set_option maxRecDepth 20000 in
theorem gL_stateOf_X6_stateOf : GoodIn wsL_stateOf (wsV RL 48 RX6 yX6_stateOf wsX6_stateOf) := goodIn_app (goodIn_of _ (by decide +kernel)) ggL_stateOf_X6_stateOf
theorem dL_stateOf_0 : decode cL_stateOf 0 = .ok (.aload_n 2, 1) := by decide +kernel
theorem dL_stateOf_1 : decode cL_stateOf 1 = .ok (.iconst 0, 1) := by decide +kernel
theorem dL_stateOf_2 : decode cL_stateOf 2 = .ok (.aload_n 0, 1) := by decide +kernel
theorem dL_stateOf_3 : decode cL_stateOf 3 = .ok (.iload_n 1, 1) := by decide +kernel
theorem dL_stateOf_4 : decode cL_stateOf 4 = .ok (.invokevirtual 48, 3) := by decide +kernel
theorem dL_stateOf_7 : decode cL_stateOf 7 = .ok (.i2l, 1) := by decide +kernel
theorem dL_stateOf_8 : decode cL_stateOf 8 = .ok (.lastore, 1) := by decide +kernel
theorem dL_stateOf_9 : decode cL_stateOf 9 = .ok (.goto 6, 3) := by decide +kernel
theorem dL_stateOf_12 : decode cL_stateOf 12 = .ok (.astore_n 3, 1) := by decide +kernel
theorem dL_stateOf_13 : decode cL_stateOf 13 = .ok (.iconst 1, 1) := by decide +kernel
theorem dL_stateOf_14 : decode cL_stateOf 14 = .ok (.ireturn, 1) := by decide +kernel
theorem dL_stateOf_15 : decode cL_stateOf 15 = .ok (.iconst 0, 1) := by decide +kernel
theorem dL_stateOf_16 : decode cL_stateOf 16 = .ok (.ireturn, 1) := by decide +kernel
set_option maxRecDepth 20000 in
theorem ggL_lorryAt_X6_lorryAt : GoodIn wsL_lorryAtN wsX6_lorryAtN := goodIn_ca (goodIn_ca (goodIn_r _ [7, 8, 9, 10, 11, 12, 13, 6, 14, 15, 16, 17, 18, 19, 20, 21, 22, 23, 24, 25, 26, 27, 28, 29, 30, 31, 32, 33, 34, 35, 36, 37, 38, 39, 40, 41, 42, 43, 44, 45, 46, 47] (by decide +kernel) (by decide +kernel)) (goodIn_sub (fun _ h => List.mem_cons_of_mem _ (List.mem_append_left _ (List.mem_append_right _ h))) (by decide +kernel))) (goodIn_sub (fun _ h => List.mem_cons_of_mem _ (List.mem_append_right _ h)) (by decide +kernel))
set_option maxRecDepth 20000 in
theorem gL_lorryAt_X6_lorryAt : GoodIn wsL_lorryAtN (wsV RL 52 RX6 yX6_lorryAt wsX6_lorryAtN) := goodIn_app (goodIn_of _ (by decide +kernel)) ggL_lorryAt_X6_lorryAt
theorem dL_lorryAt_0 : decode cL_lorryAt 0 = .ok (.aload_n 2, 1) := by decide +kernel
theorem dL_lorryAt_1 : decode cL_lorryAt 1 = .ok (.iconst 0, 1) := by decide +kernel
theorem dL_lorryAt_2 : decode cL_lorryAt 2 = .ok (.aload_n 0, 1) := by decide +kernel
theorem dL_lorryAt_3 : decode cL_lorryAt 3 = .ok (.iload_n 1, 1) := by decide +kernel
theorem dL_lorryAt_4 : decode cL_lorryAt 4 = .ok (.invokevirtual 52, 3) := by decide +kernel
theorem dL_lorryAt_7 : decode cL_lorryAt 7 = .ok (.i2l, 1) := by decide +kernel
theorem dL_lorryAt_8 : decode cL_lorryAt 8 = .ok (.lastore, 1) := by decide +kernel
theorem dL_lorryAt_9 : decode cL_lorryAt 9 = .ok (.goto 9, 3) := by decide +kernel
theorem dL_lorryAt_12 : decode cL_lorryAt 12 = .ok (.astore_n 3, 1) := by decide +kernel
theorem dL_lorryAt_13 : decode cL_lorryAt 13 = .ok (.iconst 1, 1) := by decide +kernel
theorem dL_lorryAt_14 : decode cL_lorryAt 14 = .ok (.ireturn, 1) := by decide +kernel
theorem dL_lorryAt_15 : decode cL_lorryAt 15 = .ok (.astore_n 3, 1) := by decide +kernel
theorem dL_lorryAt_16 : decode cL_lorryAt 16 = .ok (.iconst 2, 1) := by decide +kernel
theorem dL_lorryAt_17 : decode cL_lorryAt 17 = .ok (.ireturn, 1) := by decide +kernel
theorem dL_lorryAt_18 : decode cL_lorryAt 18 = .ok (.iconst 0, 1) := by decide +kernel
theorem dL_lorryAt_19 : decode cL_lorryAt 19 = .ok (.ireturn, 1) := by decide +kernel
set_option maxRecDepth 20000 in
theorem ggL_inQueue_X6_inQueue : GoodIn wsL_inQueueN wsX6_inQueueN := goodIn_ca (goodIn_ca (goodIn_r _ [7, 8, 9, 10, 11, 12, 13, 6, 14, 15, 16, 17, 18, 19, 20, 21, 22, 23, 24, 25, 26, 27, 28, 29, 30, 31, 32, 33, 34, 35, 36, 37, 38, 39, 40, 41, 42, 43, 44, 45, 46, 47, 48, 49, 50, 51, 52, 53, 54, 55, 56, 57, 58, 59, 60, 61, 62, 63, 64, 65, 66, 67, 68, 69, 70, 71, 72, 73, 74, 75, 76, 77, 78, 79, 80, 81, 82, 83, 84, 85, 86, 87, 88, 89, 90, 91, 92] (by decide +kernel) (by decide +kernel)) (goodIn_sub (fun _ h => List.mem_cons_of_mem _ (List.mem_append_left _ (List.mem_append_right _ h))) (by decide +kernel))) (goodIn_sub (fun _ h => List.mem_cons_of_mem _ (List.mem_append_right _ h)) (by decide +kernel))
set_option maxRecDepth 20000 in
theorem gL_inQueue_X6_inQueue : GoodIn wsL_inQueueN (wsV RL 57 RX6 yX6_inQueue wsX6_inQueueN) := goodIn_app (goodIn_of _ (by decide +kernel)) ggL_inQueue_X6_inQueue
theorem dL_inQueue_0 : decode cL_inQueue 0 = .ok (.aload_n 3, 1) := by decide +kernel
theorem dL_inQueue_1 : decode cL_inQueue 1 = .ok (.iconst 0, 1) := by decide +kernel
theorem dL_inQueue_2 : decode cL_inQueue 2 = .ok (.aload_n 0, 1) := by decide +kernel
theorem dL_inQueue_3 : decode cL_inQueue 3 = .ok (.iload_n 1, 1) := by decide +kernel
theorem dL_inQueue_4 : decode cL_inQueue 4 = .ok (.iload_n 2, 1) := by decide +kernel
theorem dL_inQueue_5 : decode cL_inQueue 5 = .ok (.invokevirtual 57, 3) := by decide +kernel
theorem dL_inQueue_8 : decode cL_inQueue 8 = .ok (.i2l, 1) := by decide +kernel
theorem dL_inQueue_9 : decode cL_inQueue 9 = .ok (.lastore, 1) := by decide +kernel
theorem dL_inQueue_10 : decode cL_inQueue 10 = .ok (.goto 11, 3) := by decide +kernel
theorem dL_inQueue_13 : decode cL_inQueue 13 = .ok (.astore 4, 2) := by decide +kernel
theorem dL_inQueue_15 : decode cL_inQueue 15 = .ok (.iconst 1, 1) := by decide +kernel
theorem dL_inQueue_16 : decode cL_inQueue 16 = .ok (.ireturn, 1) := by decide +kernel
theorem dL_inQueue_17 : decode cL_inQueue 17 = .ok (.astore 4, 2) := by decide +kernel
theorem dL_inQueue_19 : decode cL_inQueue 19 = .ok (.iconst 2, 1) := by decide +kernel
theorem dL_inQueue_20 : decode cL_inQueue 20 = .ok (.ireturn, 1) := by decide +kernel
theorem dL_inQueue_21 : decode cL_inQueue 21 = .ok (.iconst 0, 1) := by decide +kernel
theorem dL_inQueue_22 : decode cL_inQueue 22 = .ok (.ireturn, 1) := by decide +kernel
set_option maxRecDepth 20000 in
theorem ggL_unloaded_X6_unloaded : GoodIn wsL_unloaded wsX6_unloaded := goodIn_ca (goodIn_r _ [6, 7, 8, 9, 10, 11, 12, 13, 14, 15, 16, 17, 18, 19, 20, 21, 22, 23, 24, 25, 26, 27, 28, 29, 30, 31, 32, 33, 34, 35, 36, 37, 38, 39, 40, 41, 42, 43, 44, 45, 46, 47, 48, 49, 50, 51, 52, 53, 54, 55, 56, 57] (by decide +kernel) (by decide +kernel)) (goodIn_sub (fun _ h => List.mem_cons_of_mem _ (List.mem_append_right _ h)) (by decide +kernel))
set_option maxRecDepth 20000 in
theorem gL_unloaded_X6_unloaded : GoodIn wsL_unloaded (wsV RL 60 RX6 yX6_unloaded wsX6_unloaded) := goodIn_app (goodIn_of _ (by decide +kernel)) ggL_unloaded_X6_unloaded
theorem dL_unloaded_0 : decode cL_unloaded 0 = .ok (.aload_n 2, 1) := by decide +kernel
theorem dL_unloaded_1 : decode cL_unloaded 1 = .ok (.iconst 0, 1) := by decide +kernel
theorem dL_unloaded_2 : decode cL_unloaded 2 = .ok (.aload_n 0, 1) := by decide +kernel
theorem dL_unloaded_3 : decode cL_unloaded 3 = .ok (.iload_n 1, 1) := by decide +kernel
theorem dL_unloaded_4 : decode cL_unloaded 4 = .ok (.invokevirtual 60, 3) := by decide +kernel
theorem dL_unloaded_7 : decode cL_unloaded 7 = .ok (.i2l, 1) := by decide +kernel
theorem dL_unloaded_8 : decode cL_unloaded 8 = .ok (.lastore, 1) := by decide +kernel
theorem dL_unloaded_9 : decode cL_unloaded 9 = .ok (.goto 6, 3) := by decide +kernel
theorem dL_unloaded_12 : decode cL_unloaded 12 = .ok (.astore_n 3, 1) := by decide +kernel
theorem dL_unloaded_13 : decode cL_unloaded 13 = .ok (.iconst 1, 1) := by decide +kernel
theorem dL_unloaded_14 : decode cL_unloaded 14 = .ok (.ireturn, 1) := by decide +kernel
theorem dL_unloaded_15 : decode cL_unloaded 15 = .ok (.iconst 0, 1) := by decide +kernel
theorem dL_unloaded_16 : decode cL_unloaded 16 = .ok (.ireturn, 1) := by decide +kernel
set_option maxRecDepth 20000 in
theorem ggL_ready_X6_ready : GoodIn wsL_ready wsX6_ready := goodIn_ca (goodIn_r _ [6, 7, 8, 9, 10, 11, 12, 13, 14, 15, 16, 17, 18, 19, 20, 21, 22, 23, 24, 25, 26, 27, 28, 29, 30, 31, 32, 33, 34, 35, 36, 37, 38, 39, 40, 41, 42, 43, 44, 45, 46, 47, 48, 49, 50, 51, 52, 53, 54, 55, 56, 57] (by decide +kernel) (by decide +kernel)) (goodIn_sub (fun _ h => List.mem_cons_of_mem _ (List.mem_append_right _ h)) (by decide +kernel))
set_option maxRecDepth 20000 in
theorem gL_ready_X6_ready : GoodIn wsL_ready (wsV RL 63 RX6 yX6_ready wsX6_ready) := goodIn_app (goodIn_of _ (by decide +kernel)) ggL_ready_X6_ready
theorem dL_ready_0 : decode cL_ready 0 = .ok (.aload_n 2, 1) := by decide +kernel
theorem dL_ready_1 : decode cL_ready 1 = .ok (.iconst 0, 1) := by decide +kernel
theorem dL_ready_2 : decode cL_ready 2 = .ok (.aload_n 0, 1) := by decide +kernel
theorem dL_ready_3 : decode cL_ready 3 = .ok (.iload_n 1, 1) := by decide +kernel
theorem dL_ready_4 : decode cL_ready 4 = .ok (.invokevirtual 63, 3) := by decide +kernel
theorem dL_ready_7 : decode cL_ready 7 = .ok (.i2l, 1) := by decide +kernel
theorem dL_ready_8 : decode cL_ready 8 = .ok (.lastore, 1) := by decide +kernel
theorem dL_ready_9 : decode cL_ready 9 = .ok (.goto 6, 3) := by decide +kernel
theorem dL_ready_12 : decode cL_ready 12 = .ok (.astore_n 3, 1) := by decide +kernel
theorem dL_ready_13 : decode cL_ready 13 = .ok (.iconst 1, 1) := by decide +kernel
theorem dL_ready_14 : decode cL_ready 14 = .ok (.ireturn, 1) := by decide +kernel
theorem dL_ready_15 : decode cL_ready 15 = .ok (.iconst 0, 1) := by decide +kernel
theorem dL_ready_16 : decode cL_ready 16 = .ok (.ireturn, 1) := by decide +kernel
set_option maxRecDepth 20000 in
theorem ggL_loaded_X6_loaded : GoodIn wsL_loaded wsX6_loaded := goodIn_ca (goodIn_r _ [6, 7, 8, 9, 10, 11, 12, 13, 14, 15, 16, 17, 18, 19, 20, 21, 22, 23, 24, 25, 26, 27, 28, 29, 30, 31, 32, 33, 34, 35, 36, 37, 38, 39, 40, 41, 42, 43, 44, 45, 46, 47, 48, 49, 50, 51, 52, 53, 54, 55, 56, 57] (by decide +kernel) (by decide +kernel)) (goodIn_sub (fun _ h => List.mem_cons_of_mem _ (List.mem_append_right _ h)) (by decide +kernel))
set_option maxRecDepth 20000 in
theorem gL_loaded_X6_loaded : GoodIn wsL_loaded (wsV RL 66 RX6 yX6_loaded wsX6_loaded) := goodIn_app (goodIn_of _ (by decide +kernel)) ggL_loaded_X6_loaded
theorem dL_loaded_0 : decode cL_loaded 0 = .ok (.aload_n 2, 1) := by decide +kernel
theorem dL_loaded_1 : decode cL_loaded 1 = .ok (.iconst 0, 1) := by decide +kernel
theorem dL_loaded_2 : decode cL_loaded 2 = .ok (.aload_n 0, 1) := by decide +kernel
theorem dL_loaded_3 : decode cL_loaded 3 = .ok (.iload_n 1, 1) := by decide +kernel
theorem dL_loaded_4 : decode cL_loaded 4 = .ok (.invokevirtual 66, 3) := by decide +kernel
theorem dL_loaded_7 : decode cL_loaded 7 = .ok (.i2l, 1) := by decide +kernel
theorem dL_loaded_8 : decode cL_loaded 8 = .ok (.lastore, 1) := by decide +kernel
theorem dL_loaded_9 : decode cL_loaded 9 = .ok (.goto 6, 3) := by decide +kernel
theorem dL_loaded_12 : decode cL_loaded 12 = .ok (.astore_n 3, 1) := by decide +kernel
theorem dL_loaded_13 : decode cL_loaded 13 = .ok (.iconst 1, 1) := by decide +kernel
theorem dL_loaded_14 : decode cL_loaded 14 = .ok (.ireturn, 1) := by decide +kernel
theorem dL_loaded_15 : decode cL_loaded 15 = .ok (.iconst 0, 1) := by decide +kernel
theorem dL_loaded_16 : decode cL_loaded 16 = .ok (.ireturn, 1) := by decide +kernel
set_option maxRecDepth 20000 in
theorem ggL_leftAt_X6_leftAt : GoodIn wsL_leftAtN wsX6_leftAtN := goodIn_ca (goodIn_ca (goodIn_r _ [7, 8, 9, 10, 11, 12, 13, 14, 15, 16, 17, 18, 19, 20, 21, 22, 23, 24, 25, 26, 27, 28, 29, 30, 31, 32, 33, 34, 35, 36, 37, 38, 39, 40, 41, 42, 43, 44, 45, 46, 47, 48, 49, 50, 51, 52, 53, 54, 55, 56, 57, 58, 59, 60, 61, 62, 63, 64, 65, 66, 67, 68, 69] (by decide +kernel) (by decide +kernel)) (goodIn_sub (fun _ h => List.mem_cons_of_mem _ (List.mem_append_left _ (List.mem_append_right _ h))) (by decide +kernel))) (goodIn_sub (fun _ h => List.mem_cons_of_mem _ (List.mem_append_right _ h)) (by decide +kernel))
set_option maxRecDepth 20000 in
theorem gL_leftAt_X6_leftAt : GoodIn wsL_leftAtN (wsV RL 69 RX6 yX6_leftAt wsX6_leftAtN) := goodIn_app (goodIn_of _ (by decide +kernel)) ggL_leftAt_X6_leftAt
theorem dL_leftAt_0 : decode cL_leftAt 0 = .ok (.aload_n 2, 1) := by decide +kernel
theorem dL_leftAt_1 : decode cL_leftAt 1 = .ok (.iconst 0, 1) := by decide +kernel
theorem dL_leftAt_2 : decode cL_leftAt 2 = .ok (.aload_n 0, 1) := by decide +kernel
theorem dL_leftAt_3 : decode cL_leftAt 3 = .ok (.iload_n 1, 1) := by decide +kernel
theorem dL_leftAt_4 : decode cL_leftAt 4 = .ok (.invokevirtual 69, 3) := by decide +kernel
theorem dL_leftAt_7 : decode cL_leftAt 7 = .ok (.i2l, 1) := by decide +kernel
theorem dL_leftAt_8 : decode cL_leftAt 8 = .ok (.lastore, 1) := by decide +kernel
theorem dL_leftAt_9 : decode cL_leftAt 9 = .ok (.goto 9, 3) := by decide +kernel
theorem dL_leftAt_12 : decode cL_leftAt 12 = .ok (.astore_n 3, 1) := by decide +kernel
theorem dL_leftAt_13 : decode cL_leftAt 13 = .ok (.iconst 1, 1) := by decide +kernel
theorem dL_leftAt_14 : decode cL_leftAt 14 = .ok (.ireturn, 1) := by decide +kernel
theorem dL_leftAt_15 : decode cL_leftAt 15 = .ok (.astore_n 3, 1) := by decide +kernel
theorem dL_leftAt_16 : decode cL_leftAt 16 = .ok (.iconst 2, 1) := by decide +kernel
theorem dL_leftAt_17 : decode cL_leftAt 17 = .ok (.ireturn, 1) := by decide +kernel
theorem dL_leftAt_18 : decode cL_leftAt 18 = .ok (.iconst 0, 1) := by decide +kernel
theorem dL_leftAt_19 : decode cL_leftAt 19 = .ok (.ireturn, 1) := by decide +kernel
set_option maxRecDepth 20000 in
theorem ggL_waited_X6_waited : GoodIn wsL_waited wsX6_waited := goodIn_ca (goodIn_r _ [6, 7, 8, 9, 10, 11, 12, 13, 14, 15, 16, 17, 18, 19, 20, 21, 22, 23, 24, 25, 26, 27, 28, 29, 30, 31, 32, 33, 34, 35, 36, 37, 38, 39, 40, 41, 42, 43, 44, 45, 46, 47, 48, 49, 50, 51, 52, 53, 54, 55, 56, 57, 58, 59, 60, 61, 62, 63, 64, 65] (by decide +kernel) (by decide +kernel)) (goodIn_sub (fun _ h => List.mem_cons_of_mem _ (List.mem_append_right _ h)) (by decide +kernel))
set_option maxRecDepth 20000 in
theorem gL_waited_X6_waited : GoodIn wsL_waited (wsV RL 72 RX6 yX6_waited wsX6_waited) := goodIn_app (goodIn_of _ (by decide +kernel)) ggL_waited_X6_waited
theorem dL_waited_0 : decode cL_waited 0 = .ok (.aload_n 2, 1) := by decide +kernel
theorem dL_waited_1 : decode cL_waited 1 = .ok (.iconst 0, 1) := by decide +kernel
theorem dL_waited_2 : decode cL_waited 2 = .ok (.aload_n 0, 1) := by decide +kernel
theorem dL_waited_3 : decode cL_waited 3 = .ok (.iload_n 1, 1) := by decide +kernel
theorem dL_waited_4 : decode cL_waited 4 = .ok (.invokevirtual 72, 3) := by decide +kernel
theorem dL_waited_7 : decode cL_waited 7 = .ok (.i2l, 1) := by decide +kernel
theorem dL_waited_8 : decode cL_waited 8 = .ok (.lastore, 1) := by decide +kernel
theorem dL_waited_9 : decode cL_waited 9 = .ok (.goto 6, 3) := by decide +kernel
theorem dL_waited_12 : decode cL_waited 12 = .ok (.astore_n 3, 1) := by decide +kernel
theorem dL_waited_13 : decode cL_waited 13 = .ok (.iconst 1, 1) := by decide +kernel
theorem dL_waited_14 : decode cL_waited 14 = .ok (.ireturn, 1) := by decide +kernel
theorem dL_waited_15 : decode cL_waited 15 = .ok (.iconst 0, 1) := by decide +kernel
theorem dL_waited_16 : decode cL_waited 16 = .ok (.ireturn, 1) := by decide +kernel
set_option maxRecDepth 20000 in
theorem ggL_ownMinutes_X6_ownMinutes : GoodIn wsL_ownMinutes wsX6_ownMinutes := goodIn_ca (goodIn_r _ [6, 7, 8, 9, 10, 11, 12, 13, 14, 15, 16, 17, 18, 19, 20, 21, 22, 23, 24, 25, 26, 27, 28, 29, 30, 31, 32, 33, 34, 35, 36, 37, 38, 39, 40, 41, 42, 43, 44, 45, 46, 47, 48, 49, 50, 51, 52, 53, 54, 55, 56, 57, 58, 59, 60, 61, 62, 63, 64, 65] (by decide +kernel) (by decide +kernel)) (goodIn_sub (fun _ h => List.mem_cons_of_mem _ (List.mem_append_right _ h)) (by decide +kernel))
set_option maxRecDepth 20000 in
theorem gL_ownMinutes_X6_ownMinutes : GoodIn wsL_ownMinutes (wsV RL 75 RX6 yX6_ownMinutes wsX6_ownMinutes) := goodIn_app (goodIn_of _ (by decide +kernel)) ggL_ownMinutes_X6_ownMinutes
theorem dL_ownMinutes_0 : decode cL_ownMinutes 0 = .ok (.aload_n 2, 1) := by decide +kernel
theorem dL_ownMinutes_1 : decode cL_ownMinutes 1 = .ok (.iconst 0, 1) := by decide +kernel
theorem dL_ownMinutes_2 : decode cL_ownMinutes 2 = .ok (.aload_n 0, 1) := by decide +kernel
theorem dL_ownMinutes_3 : decode cL_ownMinutes 3 = .ok (.iload_n 1, 1) := by decide +kernel
theorem dL_ownMinutes_4 : decode cL_ownMinutes 4 = .ok (.invokevirtual 75, 3) := by decide +kernel
theorem dL_ownMinutes_7 : decode cL_ownMinutes 7 = .ok (.i2l, 1) := by decide +kernel
theorem dL_ownMinutes_8 : decode cL_ownMinutes 8 = .ok (.lastore, 1) := by decide +kernel
theorem dL_ownMinutes_9 : decode cL_ownMinutes 9 = .ok (.goto 6, 3) := by decide +kernel
theorem dL_ownMinutes_12 : decode cL_ownMinutes 12 = .ok (.astore_n 3, 1) := by decide +kernel
theorem dL_ownMinutes_13 : decode cL_ownMinutes 13 = .ok (.iconst 1, 1) := by decide +kernel
theorem dL_ownMinutes_14 : decode cL_ownMinutes 14 = .ok (.ireturn, 1) := by decide +kernel
theorem dL_ownMinutes_15 : decode cL_ownMinutes 15 = .ok (.iconst 0, 1) := by decide +kernel
theorem dL_ownMinutes_16 : decode cL_ownMinutes 16 = .ok (.ireturn, 1) := by decide +kernel
set_option maxRecDepth 20000 in
theorem ggL_debtor_X6_debtor : GoodIn wsL_debtorN wsX6_debtorN := goodIn_ca (goodIn_ca (goodIn_r _ [7, 8, 9, 10, 11, 12, 13, 14, 15, 16, 17, 18, 19, 20, 21, 22, 23, 24, 25, 26, 27, 28, 29, 30, 31, 32, 33, 34, 35, 36, 37, 38, 39, 40, 41, 42, 43, 44, 45, 46, 47, 48, 49, 50, 51, 52, 53, 54, 55, 56, 57, 58, 59, 60, 61, 62, 63, 64, 65, 66, 67, 68, 69] (by decide +kernel) (by decide +kernel)) (goodIn_sub (fun _ h => List.mem_cons_of_mem _ (List.mem_append_left _ (List.mem_append_right _ h))) (by decide +kernel))) (goodIn_sub (fun _ h => List.mem_cons_of_mem _ (List.mem_append_right _ h)) (by decide +kernel))
set_option maxRecDepth 20000 in
theorem gL_debtor_X6_debtor : GoodIn wsL_debtorN (wsV RL 78 RX6 yX6_debtor wsX6_debtorN) := goodIn_app (goodIn_of _ (by decide +kernel)) ggL_debtor_X6_debtor
theorem dL_debtor_0 : decode cL_debtor 0 = .ok (.aload_n 2, 1) := by decide +kernel
theorem dL_debtor_1 : decode cL_debtor 1 = .ok (.iconst 0, 1) := by decide +kernel
theorem dL_debtor_2 : decode cL_debtor 2 = .ok (.aload_n 0, 1) := by decide +kernel
theorem dL_debtor_3 : decode cL_debtor 3 = .ok (.iload_n 1, 1) := by decide +kernel
theorem dL_debtor_4 : decode cL_debtor 4 = .ok (.invokevirtual 78, 3) := by decide +kernel
theorem dL_debtor_7 : decode cL_debtor 7 = .ok (.i2l, 1) := by decide +kernel
theorem dL_debtor_8 : decode cL_debtor 8 = .ok (.lastore, 1) := by decide +kernel
theorem dL_debtor_9 : decode cL_debtor 9 = .ok (.goto 9, 3) := by decide +kernel
theorem dL_debtor_12 : decode cL_debtor 12 = .ok (.astore_n 3, 1) := by decide +kernel
theorem dL_debtor_13 : decode cL_debtor 13 = .ok (.iconst 1, 1) := by decide +kernel
theorem dL_debtor_14 : decode cL_debtor 14 = .ok (.ireturn, 1) := by decide +kernel
theorem dL_debtor_15 : decode cL_debtor 15 = .ok (.astore_n 3, 1) := by decide +kernel
theorem dL_debtor_16 : decode cL_debtor 16 = .ok (.iconst 2, 1) := by decide +kernel
theorem dL_debtor_17 : decode cL_debtor 17 = .ok (.ireturn, 1) := by decide +kernel
theorem dL_debtor_18 : decode cL_debtor 18 = .ok (.iconst 0, 1) := by decide +kernel
theorem dL_debtor_19 : decode cL_debtor 19 = .ok (.ireturn, 1) := by decide +kernel
set_option maxRecDepth 20000 in
theorem ggL_invoice_X6_invoice : GoodIn wsL_invoice wsX6_invoice := goodIn_ca (goodIn_ca (goodIn_r _ [6, 7, 8, 9, 10, 5, 11, 12, 13, 14, 15, 16, 17, 18, 19, 20, 21, 22, 23, 24, 25, 26, 27, 28, 29, 30, 31, 32, 33, 34, 35, 36, 37, 38, 39, 40, 41, 42, 43, 44, 45, 46, 47, 48, 49, 50, 51, 52, 53, 54, 55, 56, 57, 58, 59, 60, 61, 62, 63, 64, 65, 66, 67, 68, 69, 70, 71, 72, 73, 74, 75, 76, 77, 78, 79] (by decide +kernel) (by decide +kernel)) (goodIn_sub (fun _ h => List.mem_cons_of_mem _ (List.mem_append_right _ h)) (by decide +kernel))) (goodIn_sub (fun _ h => List.mem_cons_of_mem _ (List.mem_append_left _ (List.mem_append_right _ h))) (by decide +kernel))
set_option maxRecDepth 20000 in
theorem gL_invoice_X6_invoice : GoodIn wsL_invoice (wsV RL 81 RX6 yX6_invoice wsX6_invoice) := goodIn_app (goodIn_of _ (by decide +kernel)) ggL_invoice_X6_invoice
theorem dL_invoice_0 : decode cL_invoice 0 = .ok (.aload_n 3, 1) := by decide +kernel
theorem dL_invoice_1 : decode cL_invoice 1 = .ok (.iconst 0, 1) := by decide +kernel
theorem dL_invoice_2 : decode cL_invoice 2 = .ok (.aload_n 0, 1) := by decide +kernel
theorem dL_invoice_3 : decode cL_invoice 3 = .ok (.iload_n 1, 1) := by decide +kernel
theorem dL_invoice_4 : decode cL_invoice 4 = .ok (.iload_n 2, 1) := by decide +kernel
theorem dL_invoice_5 : decode cL_invoice 5 = .ok (.invokevirtual 81, 3) := by decide +kernel
theorem dL_invoice_8 : decode cL_invoice 8 = .ok (.i2l, 1) := by decide +kernel
theorem dL_invoice_9 : decode cL_invoice 9 = .ok (.lastore, 1) := by decide +kernel
theorem dL_invoice_10 : decode cL_invoice 10 = .ok (.goto 7, 3) := by decide +kernel
theorem dL_invoice_13 : decode cL_invoice 13 = .ok (.astore 4, 2) := by decide +kernel
theorem dL_invoice_15 : decode cL_invoice 15 = .ok (.iconst 1, 1) := by decide +kernel
theorem dL_invoice_16 : decode cL_invoice 16 = .ok (.ireturn, 1) := by decide +kernel
theorem dL_invoice_17 : decode cL_invoice 17 = .ok (.iconst 0, 1) := by decide +kernel
theorem dL_invoice_18 : decode cL_invoice 18 = .ok (.ireturn, 1) := by decide +kernel
set_option maxRecDepth 20000 in
theorem ggL_invoiceAnew_X6_invoiceAnew : GoodIn wsL_invoiceAnew wsX6_invoiceAnew := goodIn_ca (goodIn_ca (goodIn_r _ [6, 7, 8, 9, 10, 5, 11, 12, 13, 14, 15, 16, 17, 18, 19, 20, 21, 22, 23, 24, 25, 26, 27, 28, 29, 30, 31, 32, 33, 34, 35, 36, 37, 38, 39, 40, 41, 42, 43, 44, 45, 46, 47, 48, 49, 50, 51, 52, 53, 54, 55, 56, 57, 58, 59, 60, 61, 62, 63, 64, 65, 66, 67, 68, 69, 70, 71, 72, 73, 74, 75, 76, 77, 78, 79, 80, 81, 82, 83, 84, 85, 86, 87, 88, 89, 90, 91, 92, 93, 94, 95, 96, 97, 98, 99, 100, 101, 102, 103, 104, 105, 106, 107, 108, 109, 110, 111, 112, 113, 114, 115, 116, 117, 118, 119, 120, 121, 122, 123, 124, 125, 126, 127, 128, 129, 130, 131, 132, 133, 134, 135, 136, 137, 138, 139, 140, 141, 142, 143, 144, 145, 146, 147, 148, 149, 150, 151, 152, 153, 154, 155, 156, 157, 158, 159, 160, 161, 162, 163, 164, 165, 166, 167, 168, 169, 170, 171, 172, 173, 174, 175, 176, 177, 178, 179, 180, 181, 182, 183, 184, 185, 186, 187, 188, 189, 190, 191, 192, 193, 194, 195, 196, 197, 198, 199, 200, 201, 202, 203, 204, 205, 206, 207, 208, 209, 210, 211, 212, 213, 214, 215, 216, 217, 218, 219, 220, 221, 222, 223, 224, 225, 226, 227, 228, 229, 230, 231, 232, 233, 234, 235, 236, 237, 238, 239, 240, 241, 242, 243, 244, 245, 246, 247, 248, 249, 250, 251, 252, 253, 254, 255, 256, 257, 258, 259, 260, 261, 262, 263, 264, 265, 266, 267, 268, 269, 270, 271, 272, 273, 274, 275, 276, 277, 278, 279, 280, 281, 282, 283, 284, 285, 286, 287, 288, 289, 290, 291, 292, 293, 294, 295, 296, 297, 298, 299, 300, 301, 302, 303, 304, 305, 306, 307, 308, 309, 310, 311, 312, 313, 314, 315, 316, 317, 318, 319, 320, 321, 322, 323, 324, 325, 326, 327, 328, 329, 330, 331, 332, 333, 334, 335, 336, 337, 338, 339, 340, 341, 342, 343, 344, 345, 346, 347, 348, 349, 350, 351, 352, 353, 354, 355, 356, 357, 358, 359, 360, 361, 362, 363, 364, 365, 366, 367, 368, 369, 370, 371, 372, 373, 374, 375, 376, 377, 378, 379, 380, 381, 382, 383, 384, 385, 386, 387, 388, 389, 390, 391, 392, 393, 394, 395, 396, 397, 398, 399, 400, 401, 402, 403, 404, 405, 406, 407, 408, 409, 410] (by decide +kernel) (by decide +kernel)) (goodIn_sub (fun _ h => List.mem_cons_of_mem _ (List.mem_append_right _ h)) (by decide +kernel))) (goodIn_sub (fun _ h => List.mem_cons_of_mem _ (List.mem_append_left _ (List.mem_append_right _ h))) (by decide +kernel))
set_option maxRecDepth 20000 in
theorem gL_invoiceAnew_X6_invoiceAnew : GoodIn wsL_invoiceAnew (wsV RL 84 RX6 yX6_invoiceAnew wsX6_invoiceAnew) := goodIn_app (goodIn_of _ (by decide +kernel)) ggL_invoiceAnew_X6_invoiceAnew
theorem dL_invoiceAnew_0 : decode cL_invoiceAnew 0 = .ok (.aload_n 3, 1) := by decide +kernel
theorem dL_invoiceAnew_1 : decode cL_invoiceAnew 1 = .ok (.iconst 0, 1) := by decide +kernel
theorem dL_invoiceAnew_2 : decode cL_invoiceAnew 2 = .ok (.aload_n 0, 1) := by decide +kernel
theorem dL_invoiceAnew_3 : decode cL_invoiceAnew 3 = .ok (.iload_n 1, 1) := by decide +kernel
theorem dL_invoiceAnew_4 : decode cL_invoiceAnew 4 = .ok (.iload_n 2, 1) := by decide +kernel
theorem dL_invoiceAnew_5 : decode cL_invoiceAnew 5 = .ok (.invokevirtual 84, 3) := by decide +kernel
theorem dL_invoiceAnew_8 : decode cL_invoiceAnew 8 = .ok (.i2l, 1) := by decide +kernel
theorem dL_invoiceAnew_9 : decode cL_invoiceAnew 9 = .ok (.lastore, 1) := by decide +kernel
theorem dL_invoiceAnew_10 : decode cL_invoiceAnew 10 = .ok (.goto 7, 3) := by decide +kernel
theorem dL_invoiceAnew_13 : decode cL_invoiceAnew 13 = .ok (.astore 4, 2) := by decide +kernel
theorem dL_invoiceAnew_15 : decode cL_invoiceAnew 15 = .ok (.iconst 1, 1) := by decide +kernel
theorem dL_invoiceAnew_16 : decode cL_invoiceAnew 16 = .ok (.ireturn, 1) := by decide +kernel
theorem dL_invoiceAnew_17 : decode cL_invoiceAnew 17 = .ok (.iconst 0, 1) := by decide +kernel
theorem dL_invoiceAnew_18 : decode cL_invoiceAnew 18 = .ok (.ireturn, 1) := by decide +kernel
set_option maxRecDepth 20000 in
theorem ggL_balance_X6_balance : GoodIn wsL_balance wsX6_balance := goodIn_ca (goodIn_ca (goodIn_r _ [6, 7, 8, 9, 10, 5, 11, 12, 13, 14, 15, 16, 17, 18, 19, 20, 21, 22, 23, 24, 25, 26, 27, 28, 29, 30, 31, 32, 33, 34, 35, 36, 37, 38, 39, 40, 41, 42, 43, 44, 45, 46, 47, 48, 49, 50, 51, 52, 53, 54, 55, 56, 57, 58, 59, 60, 61, 62, 63, 64, 65, 66, 67, 68, 69, 70, 71, 72, 73, 74, 75, 76, 77, 78, 79, 80, 81, 82, 83, 84, 85, 86, 87] (by decide +kernel) (by decide +kernel)) (goodIn_sub (fun _ h => List.mem_cons_of_mem _ (List.mem_append_right _ h)) (by decide +kernel))) (goodIn_sub (fun _ h => List.mem_cons_of_mem _ (List.mem_append_left _ (List.mem_append_right _ h))) (by decide +kernel))
set_option maxRecDepth 20000 in
theorem gL_balance_X6_balance : GoodIn wsL_balance (wsV RL 87 RX6 yX6_balance wsX6_balance) := goodIn_app (goodIn_of _ (by decide +kernel)) ggL_balance_X6_balance
theorem dL_balance_0 : decode cL_balance 0 = .ok (.aload_n 2, 1) := by decide +kernel
theorem dL_balance_1 : decode cL_balance 1 = .ok (.iconst 0, 1) := by decide +kernel
theorem dL_balance_2 : decode cL_balance 2 = .ok (.aload_n 0, 1) := by decide +kernel
theorem dL_balance_3 : decode cL_balance 3 = .ok (.iload_n 1, 1) := by decide +kernel
theorem dL_balance_4 : decode cL_balance 4 = .ok (.invokevirtual 87, 3) := by decide +kernel
theorem dL_balance_7 : decode cL_balance 7 = .ok (.lastore, 1) := by decide +kernel
theorem dL_balance_8 : decode cL_balance 8 = .ok (.goto 6, 3) := by decide +kernel
theorem dL_balance_11 : decode cL_balance 11 = .ok (.astore_n 3, 1) := by decide +kernel
theorem dL_balance_12 : decode cL_balance 12 = .ok (.iconst 1, 1) := by decide +kernel
theorem dL_balance_13 : decode cL_balance 13 = .ok (.ireturn, 1) := by decide +kernel
theorem dL_balance_14 : decode cL_balance 14 = .ok (.iconst 0, 1) := by decide +kernel
theorem dL_balance_15 : decode cL_balance 15 = .ok (.ireturn, 1) := by decide +kernel
set_option maxRecDepth 20000 in
theorem ggL_meanWait_X6_meanWait : GoodIn wsL_meanWait wsX6_meanWait := goodIn_ca (goodIn_r _ [6, 7, 8, 9, 10, 11, 12, 13, 14, 15, 16, 17, 18, 19, 20, 21, 22, 23, 24, 25, 26, 27, 28, 29, 30, 31, 32, 33, 34, 35, 36, 37, 38, 39, 40, 41, 42, 43, 44, 45, 46, 47, 48, 49, 50, 51, 52, 53, 54, 55, 56, 57, 58, 59, 60, 61, 62, 63, 64, 65, 66, 67] (by decide +kernel) (by decide +kernel)) (goodIn_sub (fun _ h => List.mem_cons_of_mem _ (List.mem_append_right _ h)) (by decide +kernel))
set_option maxRecDepth 20000 in
theorem gL_meanWait_X6_meanWait : GoodIn wsL_meanWait (wsV RL 91 RX6 yX6_meanWait wsX6_meanWait) := goodIn_app (goodIn_of _ (by decide +kernel)) ggL_meanWait_X6_meanWait
theorem dL_meanWait_0 : decode cL_meanWait 0 = .ok (.aload_n 1, 1) := by decide +kernel
theorem dL_meanWait_1 : decode cL_meanWait 1 = .ok (.iconst 0, 1) := by decide +kernel
theorem dL_meanWait_2 : decode cL_meanWait 2 = .ok (.aload_n 0, 1) := by decide +kernel
theorem dL_meanWait_3 : decode cL_meanWait 3 = .ok (.invokevirtual 91, 3) := by decide +kernel
theorem dL_meanWait_6 : decode cL_meanWait 6 = .ok (.dastore, 1) := by decide +kernel
theorem dL_meanWait_7 : decode cL_meanWait 7 = .ok (.goto 6, 3) := by decide +kernel
theorem dL_meanWait_10 : decode cL_meanWait 10 = .ok (.astore_n 2, 1) := by decide +kernel
theorem dL_meanWait_11 : decode cL_meanWait 11 = .ok (.iconst 1, 1) := by decide +kernel
theorem dL_meanWait_12 : decode cL_meanWait 12 = .ok (.ireturn, 1) := by decide +kernel
theorem dL_meanWait_13 : decode cL_meanWait 13 = .ok (.iconst 0, 1) := by decide +kernel
theorem dL_meanWait_14 : decode cL_meanWait 14 = .ok (.ireturn, 1) := by decide +kernel
set_option maxRecDepth 20000 in
theorem ggL_dockShare_X6_dockShare : GoodIn wsL_dockShare wsX6_dockShare := goodIn_ca (goodIn_ca (goodIn_r _ [6, 7, 8, 9, 10, 11, 12, 13, 14, 15, 16, 17, 18, 19, 20, 21, 22, 23, 24, 25, 26, 27, 28, 29, 30, 31, 32, 33, 34, 35, 36, 37, 38, 39, 40, 41, 42, 43, 44, 45, 46, 47, 48, 49, 50, 51, 52, 53, 54, 55, 56, 57, 58, 59, 60, 61, 62, 63, 64, 65, 66, 67, 68, 69, 70, 71, 72, 73, 74, 75] (by decide +kernel) (by decide +kernel)) (goodIn_sub (fun _ h => List.mem_cons_of_mem _ (List.mem_append_right _ h)) (by decide +kernel))) (goodIn_sub (fun _ h => List.mem_cons_of_mem _ (List.mem_append_left _ (List.mem_append_right _ h))) (by decide +kernel))
set_option maxRecDepth 20000 in
theorem gL_dockShare_X6_dockShare : GoodIn wsL_dockShare (wsV RL 97 RX6 yX6_dockShare wsX6_dockShare) := goodIn_app (goodIn_of _ (by decide +kernel)) ggL_dockShare_X6_dockShare
theorem dL_dockShare_0 : decode cL_dockShare 0 = .ok (.aload_n 1, 1) := by decide +kernel
theorem dL_dockShare_1 : decode cL_dockShare 1 = .ok (.iconst 0, 1) := by decide +kernel
theorem dL_dockShare_2 : decode cL_dockShare 2 = .ok (.aload_n 0, 1) := by decide +kernel
theorem dL_dockShare_3 : decode cL_dockShare 3 = .ok (.invokevirtual 97, 3) := by decide +kernel
theorem dL_dockShare_6 : decode cL_dockShare 6 = .ok (.f2d, 1) := by decide +kernel
theorem dL_dockShare_7 : decode cL_dockShare 7 = .ok (.dastore, 1) := by decide +kernel
theorem dL_dockShare_8 : decode cL_dockShare 8 = .ok (.goto 6, 3) := by decide +kernel
theorem dL_dockShare_11 : decode cL_dockShare 11 = .ok (.astore_n 2, 1) := by decide +kernel
theorem dL_dockShare_12 : decode cL_dockShare 12 = .ok (.iconst 1, 1) := by decide +kernel
theorem dL_dockShare_13 : decode cL_dockShare 13 = .ok (.ireturn, 1) := by decide +kernel
theorem dL_dockShare_14 : decode cL_dockShare 14 = .ok (.iconst 0, 1) := by decide +kernel
theorem dL_dockShare_15 : decode cL_dockShare 15 = .ok (.ireturn, 1) := by decide +kernel
set_option maxRecDepth 20000 in
theorem ggL_bestDoor_X6_bestDoor : GoodIn wsL_bestDoor wsX6_bestDoor := goodIn_ca (goodIn_ca (goodIn_ca (goodIn_r _ [7, 8, 9, 10, 11, 12, 13, 14, 15, 16, 17, 18, 19, 20, 21, 22, 23, 24, 25, 26, 27, 28, 29, 30, 31, 32, 33, 34, 35, 36, 37, 38, 39, 40, 41, 42, 43, 44, 45, 46, 47, 48, 49, 50, 51, 52, 53, 54, 55, 56, 57, 58, 59, 60, 61, 62, 63, 64, 65, 66, 67, 68, 69, 70, 71, 72, 73, 74, 75, 76, 77, 78, 79, 80, 81, 82, 83, 84, 85, 86, 87, 88, 89, 90, 91, 92, 93, 94, 6, 95, 96, 97, 98, 99, 100, 101, 102, 103, 104, 105, 106, 107, 108, 109, 110, 111, 112, 113, 114, 115, 116, 117, 118, 119, 120, 121, 122, 123, 124, 125, 126, 127, 128, 129, 130, 131, 132, 133, 134, 135, 136, 137, 138] (by decide +kernel) (by decide +kernel)) (goodIn_sub (fun _ h => List.mem_cons_of_mem _ (List.mem_append_left _ (List.mem_append_right _ h))) (by decide +kernel))) (goodIn_sub (fun _ h => List.mem_cons_of_mem _ (List.mem_append_right _ h)) (by decide +kernel))) (goodIn_sub (fun _ h => List.mem_cons_of_mem _ (List.mem_append_left _ (List.mem_append_left _ (List.mem_append_right _ h)))) (by decide +kernel))
set_option maxRecDepth 20000 in
theorem gL_bestDoor_X6_bestDoor : GoodIn wsL_bestDoor (wsV RL 101 RX6 yX6_bestDoor wsX6_bestDoor) := goodIn_app (goodIn_of _ (by decide +kernel)) ggL_bestDoor_X6_bestDoor
theorem dL_bestDoor_0 : decode cL_bestDoor 0 = .ok (.aload_n 2, 1) := by decide +kernel
theorem dL_bestDoor_1 : decode cL_bestDoor 1 = .ok (.iconst 0, 1) := by decide +kernel
theorem dL_bestDoor_2 : decode cL_bestDoor 2 = .ok (.aload_n 0, 1) := by decide +kernel
theorem dL_bestDoor_3 : decode cL_bestDoor 3 = .ok (.iload_n 1, 1) := by decide +kernel
theorem dL_bestDoor_4 : decode cL_bestDoor 4 = .ok (.invokevirtual 101, 3) := by decide +kernel
