set_option maxRecDepth 20000 in
theorem ggX6_init_X0_init : GoodIn wsX6_init wsX0_init := goodIn_r _ [13, 14, 2, 3, 15, 9, 10, 16, 17, 18, 19, 20, 21, 22, 23, 24, 25, 26, 27, 28, 29, 30, 31, 32, 33, 34, 35, 44, 45, 46, 37, 38, 39, 40, 41] (by decide +kernel) (by decide +kernel)
set_option maxRecDepth 20000 in
theorem gX6_init_X0_init_n11 : GoodIn wsX6_init (wsX0_init) := ggX6_init_X0_init
set_option maxRecDepth 20000 in
theorem ggX6_init_Jx4a65c_init_da8c8 : GoodIn wsX6_init wsJx4a65c_init_da8c8 := goodIn_r _ [23, 24, 25, 26, 27, 28, 29, 30, 31, 32, 33, 34, 35, 2, 3, 44, 45, 46] (by decide +kernel) (by decide +kernel)
set_option maxRecDepth 20000 in
theorem gX6_init_Jx4a65c_init_da8c8 : GoodIn wsX6_init (wsJx4a65c_init_da8c8) := ggX6_init_Jx4a65c_init_da8c8
theorem dX6_init_0 : decode cX6_init 0 = .ok (.aload_n 0, 1) := by decide +kernel
theorem dX6_init_1 : decode cX6_init 1 = .ok (.invokespecial 3, 3) := by decide +kernel
theorem dX6_init_4 : decode cX6_init 4 = .ok (.aload_n 0, 1) := by decide +kernel
theorem dX6_init_5 : decode cX6_init 5 = .ok (.new 9, 3) := by decide +kernel
theorem dX6_init_8 : decode cX6_init 8 = .ok (.dup, 1) := by decide +kernel
theorem dX6_init_9 : decode cX6_init 9 = .ok (.invokespecial 11, 3) := by decide +kernel
theorem dX6_init_12 : decode cX6_init 12 = .ok (.putfield 12, 3) := by decide +kernel
theorem dX6_init_15 : decode cX6_init 15 = .ok (.aload_n 0, 1) := by decide +kernel
theorem dX6_init_16 : decode cX6_init 16 = .ok (.new 16, 3) := by decide +kernel
theorem dX6_init_19 : decode cX6_init 19 = .ok (.dup, 1) := by decide +kernel
theorem dX6_init_20 : decode cX6_init 20 = .ok (.invokespecial 18, 3) := by decide +kernel
theorem dX6_init_23 : decode cX6_init 23 = .ok (.putfield 19, 3) := by decide +kernel
theorem dX6_init_26 : decode cX6_init 26 = .ok (.return_, 1) := by decide +kernel
set_option maxRecDepth 20000 in
theorem ggX6_addLorry_X6_isWithin : GoodIn wsX6_addLorry wsX6_isWithin := goodIn_r _ [10] (by decide +kernel) (by decide +kernel)
set_option maxRecDepth 20000 in
theorem gX6_addLorry_X6_isWithin : GoodIn wsX6_addLorry (va_wsS RX6 23 yX6_isWithin wsX6_isWithin) := goodIn_app (goodIn_of _ (by decide +kernel)) ggX6_addLorry_X6_isWithin
set_option maxRecDepth 20000 in
theorem ggX6_addLorry_Jx4a65c_size_8abf5 : GoodIn wsX6_addLorry wsJx4a65c_size_8abf5 := goodIn_r _ [15, 16, 358, 359, 360] (by decide +kernel) (by decide +kernel)
set_option maxRecDepth 20000 in
theorem gX6_addLorry_Jx4a65c_size_8abf5 : GoodIn wsX6_addLorry (wsV RX6 37 RJx4a65c yJx4a65c_size_8abf5 wsJx4a65c_size_8abf5) := goodIn_app (goodIn_of _ (by decide +kernel)) ggX6_addLorry_Jx4a65c_size_8abf5
set_option maxRecDepth 20000 in
theorem ggX6_addLorry_X6_happen : GoodIn wsX6_addLorry wsX6_happen := goodIn_ca (goodIn_ca (goodIn_r _ [20, 21, 22, 23, 24, 5, 25, 26, 27, 28, 29, 30, 31, 32, 33, 34, 11, 12, 13, 14, 15, 16, 35, 36, 37, 38, 39, 40, 41, 42, 43, 44, 45, 46, 47, 48, 49, 50, 51, 52, 53, 54, 55, 56, 57, 58, 59, 60, 61, 62, 63, 64, 65, 66, 67, 68, 69, 70, 71, 72, 73, 74, 75, 76, 77, 78, 79, 80, 81, 82, 83, 84, 85, 86, 87, 88, 89, 90, 91, 92, 93, 94, 95, 96, 97, 98, 99, 100, 101, 102, 103, 104, 105, 106, 107, 108, 109, 110, 111, 112, 113, 114, 115, 116, 117, 118, 119, 120, 121, 122, 123, 124, 125, 126, 127, 128, 129, 130, 131, 132, 133, 134, 135, 136, 137, 138, 139, 140, 141, 142, 143, 144, 145, 146, 147, 148, 149, 150, 151, 152, 153, 154, 155, 156, 157, 158, 159, 160, 161, 162, 163, 164, 165, 166, 167, 168, 169, 170, 171, 172, 173, 174, 175, 176, 177, 178, 179, 180, 181, 182, 183, 184, 185, 186, 187, 188, 189, 190, 191, 192, 193, 194, 195, 196, 197, 198, 199, 200, 201, 202, 203, 204, 205, 206, 207, 208, 209, 210, 211, 212, 213, 214, 215, 216, 217, 218, 219, 220, 221, 222, 223, 224, 225, 226, 227, 228, 229, 230, 231, 232, 233, 234, 235, 236, 237, 238, 239, 240, 241, 242, 243, 244, 245, 246, 247, 248, 249, 250, 251, 252, 253, 254, 255, 256, 257, 258, 259, 260, 261, 262, 263, 264, 265, 266, 267, 268, 269, 270, 271, 272, 273, 274, 275, 276, 277, 278, 279, 280, 281, 9, 282, 283, 284, 285, 286, 287, 288, 289, 290, 291, 292, 293, 294, 295, 296, 297, 298, 299, 300, 301, 302, 303, 304, 305, 306, 307, 308, 309, 310, 311, 312, 313, 314, 315, 316, 317, 318, 319, 320, 321, 322, 323, 324, 325, 326, 327, 328, 329, 330, 331, 332, 333, 334, 335, 336, 337, 338, 339, 340, 341, 342, 343, 344, 345, 346, 347, 348, 349, 350, 361, 362, 363, 364, 351, 352, 358, 359, 360, 353, 354, 355, 356, 357, 365, 366, 367, 368, 369, 370, 371, 372, 373, 374, 375, 376, 377, 378, 379, 380, 381, 382, 383, 384, 385, 386, 387, 388, 389, 390] (by decide +kernel) (by decide +kernel)) (goodIn_sub (fun _ h => List.mem_cons_of_mem _ (List.mem_append_left _ (List.mem_append_right _ h))) (by decide +kernel))) (goodIn_sub (fun _ h => List.mem_cons_of_mem _ (List.mem_append_right _ h)) (by decide +kernel))
set_option maxRecDepth 20000 in
theorem gX6_addLorry_X6_happen : GoodIn wsX6_addLorry (wsV RX6 46 RX6 yX6_happen wsX6_happen) := goodIn_app (goodIn_of _ (by decide +kernel)) ggX6_addLorry_X6_happen
theorem dX6_addLorry_0 : decode cX6_addLorry 0 = .ok (.iload_n 2, 1) := by decide +kernel
theorem dX6_addLorry_1 : decode cX6_addLorry 1 = .ok (.iconst 0, 1) := by decide +kernel
theorem dX6_addLorry_2 : decode cX6_addLorry 2 = .ok (.sipush 1999, 3) := by decide +kernel
theorem dX6_addLorry_5 : decode cX6_addLorry 5 = .ok (.invokestatic 23, 3) := by decide +kernel
theorem dX6_addLorry_8 : decode cX6_addLorry 8 = .ok (.ifCond .eq 13, 3) := by decide +kernel
theorem dX6_addLorry_11 : decode cX6_addLorry 11 = .ok (.iload_n 3, 1) := by decide +kernel
theorem dX6_addLorry_12 : decode cX6_addLorry 12 = .ok (.iconst 1, 1) := by decide +kernel
theorem dX6_addLorry_13 : decode cX6_addLorry 13 = .ok (.bipush 99, 2) := by decide +kernel
theorem dX6_addLorry_15 : decode cX6_addLorry 15 = .ok (.invokestatic 23, 3) := by decide +kernel
theorem dX6_addLorry_18 : decode cX6_addLorry 18 = .ok (.ifCond .ne 13, 3) := by decide +kernel
theorem dX6_addLorry_21 : decode cX6_addLorry 21 = .ok (.new 27, 3) := by decide +kernel
theorem dX6_addLorry_24 : decode cX6_addLorry 24 = .ok (.dup, 1) := by decide +kernel
theorem dX6_addLorry_25 : decode cX6_addLorry 25 = .ok (.ldc 29, 2) := by decide +kernel
theorem dX6_addLorry_27 : decode cX6_addLorry 27 = .ok (.invokespecial 31, 3) := by decide +kernel
theorem dX6_addLorry_30 : decode cX6_addLorry 30 = .ok (.athrow, 1) := by decide +kernel
theorem dX6_addLorry_31 : decode cX6_addLorry 31 = .ok (.aload_n 0, 1) := by decide +kernel
theorem dX6_addLorry_32 : decode cX6_addLorry 32 = .ok (.getfield 12, 3) := by decide +kernel
theorem dX6_addLorry_35 : decode cX6_addLorry 35 = .ok (.getfield 34, 3) := by decide +kernel
theorem dX6_addLorry_38 : decode cX6_addLorry 38 = .ok (.invokevirtual 37, 3) := by decide +kernel
theorem dX6_addLorry_41 : decode cX6_addLorry 41 = .ok (.bipush 8, 2) := by decide +kernel
theorem dX6_addLorry_43 : decode cX6_addLorry 43 = .ok (.if_icmp .lt 13, 3) := by decide +kernel
theorem dX6_addLorry_46 : decode cX6_addLorry 46 = .ok (.new 41, 3) := by decide +kernel
theorem dX6_addLorry_49 : decode cX6_addLorry 49 = .ok (.dup, 1) := by decide +kernel
theorem dX6_addLorry_50 : decode cX6_addLorry 50 = .ok (.ldc 43, 2) := by decide +kernel
theorem dX6_addLorry_52 : decode cX6_addLorry 52 = .ok (.invokespecial 45, 3) := by decide +kernel
theorem dX6_addLorry_55 : decode cX6_addLorry 55 = .ok (.athrow, 1) := by decide +kernel
theorem dX6_addLorry_56 : decode cX6_addLorry 56 = .ok (.aload_n 0, 1) := by decide +kernel
theorem dX6_addLorry_57 : decode cX6_addLorry 57 = .ok (.iconst 0, 1) := by decide +kernel
theorem dX6_addLorry_58 : decode cX6_addLorry 58 = .ok (.iload_n 1, 1) := by decide +kernel
theorem dX6_addLorry_59 : decode cX6_addLorry 59 = .ok (.ifCond .eq 7, 3) := by decide +kernel
theorem dX6_addLorry_62 : decode cX6_addLorry 62 = .ok (.iconst 1, 1) := by decide +kernel
theorem dX6_addLorry_63 : decode cX6_addLorry 63 = .ok (.goto 4, 3) := by decide +kernel
theorem dX6_addLorry_66 : decode cX6_addLorry 66 = .ok (.iconst 0, 1) := by decide +kernel
theorem dX6_addLorry_67 : decode cX6_addLorry 67 = .ok (.iload_n 2, 1) := by decide +kernel
theorem dX6_addLorry_68 : decode cX6_addLorry 68 = .ok (.iload_n 3, 1) := by decide +kernel
theorem dX6_addLorry_69 : decode cX6_addLorry 69 = .ok (.invokevirtual 46, 3) := by decide +kernel
theorem dX6_addLorry_72 : decode cX6_addLorry 72 = .ok (.ireturn, 1) := by decide +kernel
set_option maxRecDepth 20000 in
theorem ggX6_addTransfer_X0_existingLorry : GoodIn wsX6_addTransfer wsX0_existingLorry := goodIn_ca (goodIn_r _ [12, 13, 14, 15, 16, 17, 18, 19, 20, 21, 22, 23, 24, 25, 26, 27, 28, 29, 30, 31, 32, 33, 34, 35, 36, 37, 38, 39, 374, 375, 376, 377, 378, 379, 380, 381] (by decide +kernel) (by decide +kernel)) (goodIn_sub (fun _ h => List.mem_cons_of_mem _ (List.mem_append_left _ (List.mem_append_right _ h))) (by decide +kernel))
set_option maxRecDepth 20000 in
theorem gX6_addTransfer_X0_existingLorry : GoodIn wsX6_addTransfer (wsV RX6 50 RX0 yX0_existingLorry wsX0_existingLorry) := goodIn_app (goodIn_of _ (by decide +kernel)) ggX6_addTransfer_X0_existingLorry
set_option maxRecDepth 20000 in
theorem ggX6_addTransfer_X6_isWithin : GoodIn wsX6_addTransfer wsX6_isWithin := goodIn_r _ [43] (by decide +kernel) (by decide +kernel)
set_option maxRecDepth 20000 in
theorem gX6_addTransfer_X6_isWithin : GoodIn wsX6_addTransfer (va_wsS RX6 23 yX6_isWithin wsX6_isWithin) := goodIn_app (goodIn_of _ (by decide +kernel)) ggX6_addTransfer_X6_isWithin
set_option maxRecDepth 20000 in
theorem ggX6_addTransfer_X3_isDocked : GoodIn wsX6_addTransfer wsX3_isDocked := goodIn_r _ [48, 49, 359, 360, 361, 362, 363, 364, 365, 366, 367, 368, 369, 370, 371, 372, 373] (by decide +kernel) (by decide +kernel)
set_option maxRecDepth 20000 in
theorem gX6_addTransfer_X3_isDocked : GoodIn wsX6_addTransfer (wsV RX6 62 RX3 yX3_isDocked wsX3_isDocked) := goodIn_app (goodIn_of _ (by decide +kernel)) ggX6_addTransfer_X3_isDocked
set_option maxRecDepth 20000 in
theorem ggX6_addTransfer_Jx4a65c_size_8abf5 : GoodIn wsX6_addTransfer wsJx4a65c_size_8abf5 := goodIn_r _ [21, 22, 379, 380, 381] (by decide +kernel) (by decide +kernel)
set_option maxRecDepth 20000 in
theorem gX6_addTransfer_Jx4a65c_size_8abf5 : GoodIn wsX6_addTransfer (wsV RX6 37 RJx4a65c yJx4a65c_size_8abf5 wsJx4a65c_size_8abf5) := goodIn_app (goodIn_of _ (by decide +kernel)) ggX6_addTransfer_Jx4a65c_size_8abf5
set_option maxRecDepth 20000 in
theorem ggX6_addTransfer_X6_happen : GoodIn wsX6_addTransfer wsX6_happen := goodIn_ca (goodIn_ca (goodIn_r _ [54, 55, 56, 57, 58, 5, 59, 60, 61, 62, 63, 64, 65, 66, 67, 68, 50, 18, 19, 20, 21, 22, 69, 70, 71, 72, 73, 74, 39, 75, 76, 77, 78, 79, 80, 81, 82, 83, 84, 85, 86, 87, 88, 89, 90, 91, 92, 93, 94, 95, 96, 97, 98, 99, 100, 101, 102, 103, 104, 105, 106, 107, 108, 109, 110, 111, 112, 113, 114, 115, 116, 117, 118, 119, 120, 121, 122, 123, 124, 11, 125, 126, 127, 128, 129, 130, 131, 132, 133, 15, 134, 135, 47, 136, 17, 137, 138, 139, 140, 141, 49, 142, 143, 144, 145, 146, 147, 148, 149, 150, 151, 152, 153, 154, 155, 156, 157, 158, 159, 9, 10, 12, 13, 14, 16, 23, 24, 25, 26, 27, 28, 29, 30, 31, 32, 33, 34, 35, 36, 37, 38, 160, 161, 162, 163, 164, 165, 166, 167, 168, 169, 170, 171, 172, 173, 174, 175, 176, 177, 178, 179, 180, 181, 182, 183, 184, 185, 186, 187, 188, 189, 190, 191, 192, 193, 194, 195, 196, 197, 198, 199, 200, 201, 202, 203, 204, 205, 206, 207, 208, 209, 210, 211, 212, 213, 214, 215, 216, 217, 218, 219, 220, 221, 222, 223, 224, 225, 226, 227, 228, 229, 230, 231, 232, 233, 234, 235, 236, 237, 238, 239, 240, 241, 242, 243, 244, 245, 246, 247, 248, 249, 250, 251, 252, 253, 254, 255, 256, 257, 258, 259, 260, 261, 262, 263, 264, 265, 266, 267, 268, 269, 270, 271, 272, 273, 274, 275, 276, 277, 278, 279, 280, 281, 282, 283, 284, 285, 286, 287, 42, 288, 289, 290, 291, 292, 293, 294, 295, 296, 297, 298, 299, 300, 301, 302, 303, 304, 305, 306, 307, 308, 309, 310, 311, 312, 313, 314, 315, 316, 317, 318, 319, 320, 321, 322, 323, 324, 325, 326, 327, 328, 329, 330, 331, 332, 333, 334, 335, 336, 337, 338, 339, 340, 341, 342, 343, 344, 345, 346, 347, 348, 349, 350, 351, 352, 353, 354, 355, 356, 382, 383, 384, 385, 357, 358, 379, 380, 381, 374, 375, 376, 377, 378, 359, 360, 361, 362, 363, 364, 365, 366, 367, 368, 369, 370, 371, 372, 373, 386, 387, 388, 389, 390, 391, 392, 393, 394, 395, 396] (by decide +kernel) (by decide +kernel)) (goodIn_sub (fun _ h => List.mem_cons_of_mem _ (List.mem_append_left _ (List.mem_append_right _ h))) (by decide +kernel))) (goodIn_sub (fun _ h => List.mem_cons_of_mem _ (List.mem_append_right _ h)) (by decide +kernel))
set_option maxRecDepth 20000 in
theorem gX6_addTransfer_X6_happen : GoodIn wsX6_addTransfer (wsV RX6 46 RX6 yX6_happen wsX6_happen) := goodIn_app (goodIn_of _ (by decide +kernel)) ggX6_addTransfer_X6_happen
theorem dX6_addTransfer_0 : decode cX6_addTransfer 0 = .ok (.aload_n 0, 1) := by decide +kernel
theorem dX6_addTransfer_1 : decode cX6_addTransfer 1 = .ok (.getfield 12, 3) := by decide +kernel
theorem dX6_addTransfer_4 : decode cX6_addTransfer 4 = .ok (.iload_n 1, 1) := by decide +kernel
theorem dX6_addTransfer_5 : decode cX6_addTransfer 5 = .ok (.invokevirtual 50, 3) := by decide +kernel
theorem dX6_addTransfer_8 : decode cX6_addTransfer 8 = .ok (.astore 4, 2) := by decide +kernel
theorem dX6_addTransfer_10 : decode cX6_addTransfer 10 = .ok (.aload_n 0, 1) := by decide +kernel
theorem dX6_addTransfer_11 : decode cX6_addTransfer 11 = .ok (.getfield 12, 3) := by decide +kernel
theorem dX6_addTransfer_14 : decode cX6_addTransfer 14 = .ok (.iload_n 2, 1) := by decide +kernel
theorem dX6_addTransfer_15 : decode cX6_addTransfer 15 = .ok (.invokevirtual 50, 3) := by decide +kernel
theorem dX6_addTransfer_18 : decode cX6_addTransfer 18 = .ok (.astore 5, 2) := by decide +kernel
theorem dX6_addTransfer_20 : decode cX6_addTransfer 20 = .ok (.aload 4, 2) := by decide +kernel
theorem dX6_addTransfer_22 : decode cX6_addTransfer 22 = .ok (.getfield 54, 3) := by decide +kernel
theorem dX6_addTransfer_25 : decode cX6_addTransfer 25 = .ok (.ifCond .eq 21, 3) := by decide +kernel
theorem dX6_addTransfer_28 : decode cX6_addTransfer 28 = .ok (.aload 5, 2) := by decide +kernel
theorem dX6_addTransfer_30 : decode cX6_addTransfer 30 = .ok (.getfield 54, 3) := by decide +kernel
theorem dX6_addTransfer_33 : decode cX6_addTransfer 33 = .ok (.ifCond .ne 13, 3) := by decide +kernel
theorem dX6_addTransfer_36 : decode cX6_addTransfer 36 = .ok (.iload_n 3, 1) := by decide +kernel
theorem dX6_addTransfer_37 : decode cX6_addTransfer 37 = .ok (.iconst 1, 1) := by decide +kernel
theorem dX6_addTransfer_38 : decode cX6_addTransfer 38 = .ok (.bipush 99, 2) := by decide +kernel
theorem dX6_addTransfer_40 : decode cX6_addTransfer 40 = .ok (.invokestatic 23, 3) := by decide +kernel
theorem dX6_addTransfer_43 : decode cX6_addTransfer 43 = .ok (.ifCond .ne 13, 3) := by decide +kernel
theorem dX6_addTransfer_46 : decode cX6_addTransfer 46 = .ok (.new 27, 3) := by decide +kernel
theorem dX6_addTransfer_49 : decode cX6_addTransfer 49 = .ok (.dup, 1) := by decide +kernel
theorem dX6_addTransfer_50 : decode cX6_addTransfer 50 = .ok (.ldc 60, 2) := by decide +kernel
theorem dX6_addTransfer_52 : decode cX6_addTransfer 52 = .ok (.invokespecial 31, 3) := by decide +kernel
theorem dX6_addTransfer_55 : decode cX6_addTransfer 55 = .ok (.athrow, 1) := by decide +kernel
theorem dX6_addTransfer_56 : decode cX6_addTransfer 56 = .ok (.aload 4, 2) := by decide +kernel
theorem dX6_addTransfer_58 : decode cX6_addTransfer 58 = .ok (.invokevirtual 62, 3) := by decide +kernel
theorem dX6_addTransfer_61 : decode cX6_addTransfer 61 = .ok (.ifCond .ne 26, 3) := by decide +kernel
theorem dX6_addTransfer_64 : decode cX6_addTransfer 64 = .ok (.aload 5, 2) := by decide +kernel
theorem dX6_addTransfer_66 : decode cX6_addTransfer 66 = .ok (.invokevirtual 62, 3) := by decide +kernel
theorem dX6_addTransfer_69 : decode cX6_addTransfer 69 = .ok (.ifCond .ne 18, 3) := by decide +kernel
theorem dX6_addTransfer_72 : decode cX6_addTransfer 72 = .ok (.aload_n 0, 1) := by decide +kernel
theorem dX6_addTransfer_73 : decode cX6_addTransfer 73 = .ok (.getfield 12, 3) := by decide +kernel
theorem dX6_addTransfer_76 : decode cX6_addTransfer 76 = .ok (.getfield 66, 3) := by decide +kernel
theorem dX6_addTransfer_79 : decode cX6_addTransfer 79 = .ok (.invokevirtual 37, 3) := by decide +kernel
theorem dX6_addTransfer_82 : decode cX6_addTransfer 82 = .ok (.bipush 16, 2) := by decide +kernel
theorem dX6_addTransfer_84 : decode cX6_addTransfer 84 = .ok (.if_icmp .lt 13, 3) := by decide +kernel
theorem dX6_addTransfer_87 : decode cX6_addTransfer 87 = .ok (.new 41, 3) := by decide +kernel
theorem dX6_addTransfer_90 : decode cX6_addTransfer 90 = .ok (.dup, 1) := by decide +kernel
theorem dX6_addTransfer_91 : decode cX6_addTransfer 91 = .ok (.ldc 69, 2) := by decide +kernel
theorem dX6_addTransfer_93 : decode cX6_addTransfer 93 = .ok (.invokespecial 45, 3) := by decide +kernel
theorem dX6_addTransfer_96 : decode cX6_addTransfer 96 = .ok (.athrow, 1) := by decide +kernel
theorem dX6_addTransfer_97 : decode cX6_addTransfer 97 = .ok (.aload_n 0, 1) := by decide +kernel
theorem dX6_addTransfer_98 : decode cX6_addTransfer 98 = .ok (.iconst 1, 1) := by decide +kernel
theorem dX6_addTransfer_99 : decode cX6_addTransfer 99 = .ok (.iload_n 1, 1) := by decide +kernel
theorem dX6_addTransfer_100 : decode cX6_addTransfer 100 = .ok (.iload_n 2, 1) := by decide +kernel
theorem dX6_addTransfer_101 : decode cX6_addTransfer 101 = .ok (.iload_n 3, 1) := by decide +kernel
theorem dX6_addTransfer_102 : decode cX6_addTransfer 102 = .ok (.invokevirtual 46, 3) := by decide +kernel
theorem dX6_addTransfer_105 : decode cX6_addTransfer 105 = .ok (.ireturn, 1) := by decide +kernel
set_option maxRecDepth 20000 in
theorem ggX6_planDoor_X0_existingLorry : GoodIn wsX6_planDoor wsX0_existingLorry := goodIn_ca (goodIn_r _ [8, 9, 10, 11, 12, 13, 14, 15, 16, 17, 18, 19, 20, 21, 22, 23, 24, 25, 26, 27, 28, 29, 30, 31, 32, 33, 34, 35, 359, 360, 361, 362, 363, 364, 365, 366] (by decide +kernel) (by decide +kernel)) (goodIn_sub (fun _ h => List.mem_cons_of_mem _ (List.mem_append_left _ (List.mem_append_left _ (List.mem_append_right _ h)))) (by decide +kernel))
set_option maxRecDepth 20000 in
theorem gX6_planDoor_X0_existingLorry : GoodIn wsX6_planDoor (wsV RX6 50 RX0 yX0_existingLorry wsX0_existingLorry) := goodIn_app (goodIn_of _ (by decide +kernel)) ggX6_planDoor_X0_existingLorry
set_option maxRecDepth 20000 in
theorem ggX6_planDoor_X6_requireDoor : GoodIn wsX6_planDoor wsX6_requireDoor := goodIn_ca (goodIn_r _ [39, 40, 10, 41, 42, 38, 43] (by decide +kernel) (by decide +kernel)) (goodIn_sub (fun _ h => List.mem_cons_of_mem _ (List.mem_append_left _ (List.mem_append_right _ h))) (by decide +kernel))
set_option maxRecDepth 20000 in
theorem gX6_planDoor_X6_requireDoor : GoodIn wsX6_planDoor (va_wsS RX6 71 yX6_requireDoor wsX6_requireDoor) := goodIn_app (goodIn_of _ (by decide +kernel)) ggX6_planDoor_X6_requireDoor
set_option maxRecDepth 20000 in
theorem ggX6_planDoor_X3_isDocked : GoodIn wsX6_planDoor wsX3_isDocked := goodIn_r _ [48, 49, 367, 368, 369, 370, 371, 372, 373, 374, 375, 376, 377, 378, 379, 380, 381] (by decide +kernel) (by decide +kernel)
set_option maxRecDepth 20000 in
theorem gX6_planDoor_X3_isDocked : GoodIn wsX6_planDoor (wsV RX6 62 RX3 yX3_isDocked wsX3_isDocked) := goodIn_app (goodIn_of _ (by decide +kernel)) ggX6_planDoor_X3_isDocked
set_option maxRecDepth 20000 in
theorem ggX6_planDoor_X6_happen : GoodIn wsX6_planDoor wsX6_happen := goodIn_ca (goodIn_ca (goodIn_r _ [53, 54, 55, 56, 57, 3, 58, 59, 60, 61, 62, 63, 64, 65, 66, 67, 68, 14, 15, 16, 17, 18, 69, 70, 71, 72, 73, 74, 35, 75, 76, 77, 78, 79, 80, 81, 82, 83, 84, 85, 86, 87, 88, 89, 90, 91, 92, 93, 94, 95, 96, 97, 98, 99, 100, 101, 102, 103, 104, 105, 106, 107, 108, 109, 110, 111, 112, 113, 114, 115, 116, 117, 118, 119, 120, 121, 122, 123, 124, 7, 125, 126, 127, 128, 129, 130, 131, 132, 133, 11, 134, 135, 47, 136, 13, 137, 138, 139, 140, 141, 49, 142, 143, 144, 145, 146, 147, 148, 149, 150, 151, 152, 153, 154, 155, 156, 157, 158, 159, 5, 6, 8, 9, 10, 12, 19, 20, 21, 22, 23, 24, 25, 26, 27, 28, 29, 30, 31, 32, 33, 34, 160, 161, 162, 163, 164, 165, 166, 167, 168, 169, 170, 171, 172, 173, 174, 175, 176, 177, 178, 179, 180, 181, 182, 183, 184, 185, 186, 187, 188, 189, 190, 191, 192, 193, 194, 195, 196, 197, 198, 199, 200, 201, 202, 203, 204, 205, 206, 207, 208, 209, 210, 211, 212, 213, 214, 215, 216, 217, 218, 219, 220, 221, 222, 223, 224, 225, 226, 227, 228, 229, 230, 231, 232, 233, 234, 235, 236, 237, 238, 239, 240, 241, 242, 243, 244, 245, 246, 247, 248, 249, 250, 251, 252, 253, 254, 255, 256, 257, 258, 259, 260, 261, 262, 263, 264, 265, 266, 267, 268, 269, 270, 271, 272, 273, 274, 275, 276, 277, 278, 279, 280, 281, 282, 283, 284, 285, 286, 287, 38, 288, 289, 290, 291, 292, 293, 294, 295, 296, 297, 298, 299, 300, 301, 302, 303, 304, 305, 306, 307, 308, 309, 310, 311, 312, 313, 314, 315, 316, 317, 318, 319, 320, 321, 322, 323, 324, 325, 326, 327, 328, 329, 330, 331, 332, 333, 334, 335, 336, 337, 338, 339, 340, 341, 342, 343, 344, 345, 346, 347, 348, 349, 350, 351, 352, 353, 354, 355, 356, 382, 383, 384, 385, 357, 358, 364, 365, 366, 359, 360, 361, 362, 363, 367, 368, 369, 370, 371, 372, 373, 374, 375, 376, 377, 378, 379, 380, 381, 386, 387, 388, 389, 390, 391, 392, 393, 394, 395, 396] (by decide +kernel) (by decide +kernel)) (goodIn_sub (fun _ h => List.mem_cons_of_mem _ (List.mem_append_left _ (List.mem_append_left _ (List.mem_append_right _ h)))) (by decide +kernel))) (goodIn_sub (fun _ h => List.mem_cons_of_mem _ (List.mem_append_right _ h)) (by decide +kernel))
set_option maxRecDepth 20000 in
theorem gX6_planDoor_X6_happen : GoodIn wsX6_planDoor (wsV RX6 46 RX6 yX6_happen wsX6_happen) := goodIn_app (goodIn_of _ (by decide +kernel)) ggX6_planDoor_X6_happen
theorem dX6_planDoor_0 : decode cX6_planDoor 0 = .ok (.aload_n 0, 1) := by decide +kernel
theorem dX6_planDoor_1 : decode cX6_planDoor 1 = .ok (.getfield 12, 3) := by decide +kernel
theorem dX6_planDoor_4 : decode cX6_planDoor 4 = .ok (.iload_n 1, 1) := by decide +kernel
theorem dX6_planDoor_5 : decode cX6_planDoor 5 = .ok (.invokevirtual 50, 3) := by decide +kernel
theorem dX6_planDoor_8 : decode cX6_planDoor 8 = .ok (.astore_n 3, 1) := by decide +kernel
theorem dX6_planDoor_9 : decode cX6_planDoor 9 = .ok (.iload_n 2, 1) := by decide +kernel
theorem dX6_planDoor_10 : decode cX6_planDoor 10 = .ok (.invokestatic 71, 3) := by decide +kernel
theorem dX6_planDoor_13 : decode cX6_planDoor 13 = .ok (.aload_n 3, 1) := by decide +kernel
theorem dX6_planDoor_14 : decode cX6_planDoor 14 = .ok (.invokevirtual 62, 3) := by decide +kernel
theorem dX6_planDoor_17 : decode cX6_planDoor 17 = .ok (.ifCond .eq 13, 3) := by decide +kernel
theorem dX6_planDoor_20 : decode cX6_planDoor 20 = .ok (.new 41, 3) := by decide +kernel
theorem dX6_planDoor_23 : decode cX6_planDoor 23 = .ok (.dup, 1) := by decide +kernel
theorem dX6_planDoor_24 : decode cX6_planDoor 24 = .ok (.ldc 75, 2) := by decide +kernel
theorem dX6_planDoor_26 : decode cX6_planDoor 26 = .ok (.invokespecial 45, 3) := by decide +kernel
theorem dX6_planDoor_29 : decode cX6_planDoor 29 = .ok (.athrow, 1) := by decide +kernel
theorem dX6_planDoor_30 : decode cX6_planDoor 30 = .ok (.aload_n 0, 1) := by decide +kernel
theorem dX6_planDoor_31 : decode cX6_planDoor 31 = .ok (.iconst 2, 1) := by decide +kernel
theorem dX6_planDoor_32 : decode cX6_planDoor 32 = .ok (.iload_n 1, 1) := by decide +kernel
theorem dX6_planDoor_33 : decode cX6_planDoor 33 = .ok (.iload_n 2, 1) := by decide +kernel
theorem dX6_planDoor_34 : decode cX6_planDoor 34 = .ok (.iconst 0, 1) := by decide +kernel
theorem dX6_planDoor_35 : decode cX6_planDoor 35 = .ok (.invokevirtual 46, 3) := by decide +kernel
theorem dX6_planDoor_38 : decode cX6_planDoor 38 = .ok (.ireturn, 1) := by decide +kernel
set_option maxRecDepth 20000 in
theorem ggX6_arrive_X0_existingLorry : GoodIn wsX6_arrive wsX0_existingLorry := goodIn_ca (goodIn_r _ [12, 13, 14, 15, 16, 17, 18, 19, 20, 21, 22, 23, 24, 25, 26, 27, 28, 29, 30, 31, 32, 33, 34, 35, 36, 37, 38, 39, 367, 368, 369, 370, 371, 372, 373, 374] (by decide +kernel) (by decide +kernel)) (goodIn_sub (fun _ h => List.mem_cons_of_mem _ (List.mem_append_left _ (List.mem_append_right _ h))) (by decide +kernel))
set_option maxRecDepth 20000 in
theorem gX6_arrive_X0_existingLorry : GoodIn wsX6_arrive (wsV RX6 50 RX0 yX0_existingLorry wsX0_existingLorry) := goodIn_app (goodIn_of _ (by decide +kernel)) ggX6_arrive_X0_existingLorry
set_option maxRecDepth 20000 in
theorem ggX6_arrive_X6_happen : GoodIn wsX6_arrive wsX6_happen := goodIn_ca (goodIn_ca (goodIn_r _ [44, 45, 46, 47, 48, 5, 49, 50, 51, 52, 53, 54, 55, 56, 57, 58, 59, 18, 19, 20, 21, 22, 60, 61, 62, 63, 64, 65, 39, 66, 67, 68, 69, 70, 71, 72, 73, 74, 75, 76, 77, 78, 79, 80, 81, 82, 83, 84, 85, 86, 87, 88, 89, 90, 91, 92, 93, 94, 95, 96, 97, 98, 99, 100, 101, 102, 103, 104, 105, 106, 107, 108, 109, 110, 111, 112, 113, 114, 115, 11, 116, 117, 118, 119, 120, 121, 122, 123, 124, 15, 125, 126, 127, 128, 17, 129, 130, 131, 132, 133, 134, 135, 136, 137, 138, 139, 140, 141, 142, 143, 144, 145, 146, 147, 148, 149, 150, 151, 152, 9, 10, 12, 13, 14, 16, 23, 24, 25, 26, 27, 28, 29, 30, 31, 32, 33, 34, 35, 36, 37, 38, 153, 154, 155, 156, 157, 158, 159, 160, 161, 162, 163, 164, 165, 166, 167, 168, 169, 170, 171, 172, 173, 174, 175, 176, 177, 178, 179, 180, 181, 182, 183, 184, 185, 186, 187, 188, 189, 190, 191, 192, 193, 194, 195, 196, 197, 198, 199, 200, 201, 202, 203, 204, 205, 206, 207, 208, 209, 210, 211, 212, 213, 214, 215, 216, 217, 218, 219, 220, 221, 222, 223, 224, 225, 226, 227, 228, 229, 230, 231, 232, 233, 234, 235, 236, 237, 238, 239, 240, 241, 242, 243, 244, 245, 246, 247, 248, 249, 250, 251, 252, 253, 254, 255, 256, 257, 258, 259, 260, 261, 262, 263, 264, 265, 266, 267, 268, 269, 270, 271, 272, 273, 274, 275, 276, 277, 278, 279, 280, 43, 281, 282, 283, 284, 285, 286, 287, 288, 289, 290, 291, 292, 293, 294, 295, 296, 297, 298, 299, 300, 301, 302, 303, 304, 305, 306, 307, 308, 309, 310, 311, 312, 313, 314, 315, 316, 317, 318, 319, 320, 321, 322, 323, 324, 325, 326, 327, 328, 329, 330, 331, 332, 333, 334, 335, 336, 337, 338, 339, 340, 341, 342, 343, 344, 345, 346, 347, 348, 349, 375, 376, 377, 378, 350, 351, 372, 373, 374, 367, 368, 369, 370, 371, 352, 353, 354, 355, 356, 357, 358, 359, 360, 361, 362, 363, 364, 365, 366, 379, 380, 381, 382, 383, 384, 385, 386, 387, 388, 389] (by decide +kernel) (by decide +kernel)) (goodIn_sub (fun _ h => List.mem_cons_of_mem _ (List.mem_append_left _ (List.mem_append_right _ h))) (by decide +kernel))) (goodIn_sub (fun _ h => List.mem_cons_of_mem _ (List.mem_append_right _ h)) (by decide +kernel))
set_option maxRecDepth 20000 in
theorem gX6_arrive_X6_happen : GoodIn wsX6_arrive (wsV RX6 46 RX6 yX6_happen wsX6_happen) := goodIn_app (goodIn_of _ (by decide +kernel)) ggX6_arrive_X6_happen
theorem dX6_arrive_0 : decode cX6_arrive 0 = .ok (.aload_n 0, 1) := by decide +kernel
theorem dX6_arrive_1 : decode cX6_arrive 1 = .ok (.getfield 12, 3) := by decide +kernel
theorem dX6_arrive_4 : decode cX6_arrive 4 = .ok (.iload_n 1, 1) := by decide +kernel
theorem dX6_arrive_5 : decode cX6_arrive 5 = .ok (.invokevirtual 50, 3) := by decide +kernel
theorem dX6_arrive_8 : decode cX6_arrive 8 = .ok (.astore_n 2, 1) := by decide +kernel
theorem dX6_arrive_9 : decode cX6_arrive 9 = .ok (.aload_n 2, 1) := by decide +kernel
theorem dX6_arrive_10 : decode cX6_arrive 10 = .ok (.getfield 77, 3) := by decide +kernel
theorem dX6_arrive_13 : decode cX6_arrive 13 = .ok (.bipush 101, 2) := by decide +kernel
theorem dX6_arrive_15 : decode cX6_arrive 15 = .ok (.if_icmp .eq 13, 3) := by decide +kernel
theorem dX6_arrive_18 : decode cX6_arrive 18 = .ok (.new 41, 3) := by decide +kernel
theorem dX6_arrive_21 : decode cX6_arrive 21 = .ok (.dup, 1) := by decide +kernel
theorem dX6_arrive_22 : decode cX6_arrive 22 = .ok (.ldc 81, 2) := by decide +kernel
theorem dX6_arrive_24 : decode cX6_arrive 24 = .ok (.invokespecial 45, 3) := by decide +kernel
theorem dX6_arrive_27 : decode cX6_arrive 27 = .ok (.athrow, 1) := by decide +kernel
theorem dX6_arrive_28 : decode cX6_arrive 28 = .ok (.aload_n 2, 1) := by decide +kernel
theorem dX6_arrive_29 : decode cX6_arrive 29 = .ok (.getfield 83, 3) := by decide +kernel
theorem dX6_arrive_32 : decode cX6_arrive 32 = .ok (.iconst (-1), 1) := by decide +kernel
theorem dX6_arrive_33 : decode cX6_arrive 33 = .ok (.if_icmp .ne 13, 3) := by decide +kernel
theorem dX6_arrive_36 : decode cX6_arrive 36 = .ok (.new 87, 3) := by decide +kernel
theorem dX6_arrive_39 : decode cX6_arrive 39 = .ok (.dup, 1) := by decide +kernel
theorem dX6_arrive_40 : decode cX6_arrive 40 = .ok (.ldc 89, 2) := by decide +kernel
theorem dX6_arrive_42 : decode cX6_arrive 42 = .ok (.invokespecial 91, 3) := by decide +kernel
theorem dX6_arrive_45 : decode cX6_arrive 45 = .ok (.athrow, 1) := by decide +kernel
theorem dX6_arrive_46 : decode cX6_arrive 46 = .ok (.aload_n 0, 1) := by decide +kernel
theorem dX6_arrive_47 : decode cX6_arrive 47 = .ok (.iconst 3, 1) := by decide +kernel
theorem dX6_arrive_48 : decode cX6_arrive 48 = .ok (.iload_n 1, 1) := by decide +kernel
theorem dX6_arrive_49 : decode cX6_arrive 49 = .ok (.iconst 0, 1) := by decide +kernel
theorem dX6_arrive_50 : decode cX6_arrive 50 = .ok (.iconst 0, 1) := by decide +kernel
theorem dX6_arrive_51 : decode cX6_arrive 51 = .ok (.invokevirtual 46, 3) := by decide +kernel
theorem dX6_arrive_54 : decode cX6_arrive 54 = .ok (.ireturn, 1) := by decide +kernel
set_option maxRecDepth 20000 in
theorem ggX6_sendOff_X0_existingLorry : GoodIn wsX6_sendOff wsX0_existingLorry := goodIn_ca (goodIn_r _ [8, 9, 10, 11, 12, 13, 14, 15, 16, 17, 18, 19, 20, 21, 22, 23, 24, 25, 26, 27, 28, 29, 30, 31, 32, 33, 34, 35, 349, 350, 351, 352, 353, 354, 355, 356] (by decide +kernel) (by decide +kernel)) (goodIn_sub (fun _ h => List.mem_cons_of_mem _ (List.mem_append_left _ (List.mem_append_right _ h))) (by decide +kernel))
set_option maxRecDepth 20000 in
theorem gX6_sendOff_X0_existingLorry : GoodIn wsX6_sendOff (wsV RX6 50 RX0 yX0_existingLorry wsX0_existingLorry) := goodIn_app (goodIn_of _ (by decide +kernel)) ggX6_sendOff_X0_existingLorry
set_option maxRecDepth 20000 in
theorem ggX6_sendOff_X3_isPresent : GoodIn wsX6_sendOff wsX3_isPresent := goodIn_r _ [40, 41, 357, 358, 359, 360, 361, 362, 363, 364, 365, 366, 367, 368, 369, 370, 371] (by decide +kernel) (by decide +kernel)
set_option maxRecDepth 20000 in
theorem gX6_sendOff_X3_isPresent : GoodIn wsX6_sendOff (wsV RX6 92 RX3 yX3_isPresent wsX3_isPresent) := goodIn_app (goodIn_of _ (by decide +kernel)) ggX6_sendOff_X3_isPresent
set_option maxRecDepth 20000 in
theorem ggX6_sendOff_X6_happen : GoodIn wsX6_sendOff wsX6_happen := goodIn_ca (goodIn_ca (goodIn_r _ [46, 47, 48, 49, 50, 3, 51, 52, 53, 54, 55, 56, 57, 58, 59, 60, 61, 14, 15, 16, 17, 18, 62, 63, 64, 65, 66, 67, 35, 68, 69, 70, 71, 72, 73, 74, 75, 76, 77, 78, 79, 80, 81, 82, 83, 84, 85, 86, 87, 88, 89, 90, 91, 92, 93, 94, 95, 96, 97, 98, 99, 100, 101, 102, 103, 104, 105, 106, 107, 108, 109, 110, 111, 112, 113, 114, 115, 116, 117, 7, 118, 119, 120, 121, 122, 123, 124, 125, 126, 11, 127, 128, 39, 129, 13, 130, 131, 132, 133, 134, 41, 135, 136, 137, 138, 139, 140, 141, 142, 143, 144, 145, 146, 147, 148, 149, 150, 151, 152, 5, 6, 8, 9, 10, 12, 19, 20, 21, 22, 23, 24, 25, 26, 27, 28, 29, 30, 31, 32, 33, 34, 153, 154, 155, 156, 157, 158, 159, 160, 161, 162, 163, 164, 165, 166, 167, 168, 169, 170, 171, 172, 173, 174, 175, 176, 177, 178, 179, 180, 181, 182, 183, 184, 185, 186, 187, 188, 189, 190, 191, 192, 193, 194, 195, 196, 197, 198, 199, 200, 201, 202, 203, 204, 205, 206, 207, 208, 209, 210, 211, 212, 213, 214, 215, 216, 217, 218, 219, 220, 221, 222, 223, 224, 225, 226, 227, 228, 229, 230, 231, 232, 233, 234, 235, 236, 237, 238, 239, 240, 241, 242, 243, 244, 245, 246, 247, 248, 249, 250, 251, 252, 253, 254, 255, 256, 257, 258, 259, 260, 261, 262, 263, 264, 265, 266, 267, 268, 269, 270, 271, 272, 273, 274, 275, 276, 277, 278, 279, 280, 45, 281, 282, 283, 284, 285, 286, 287, 288, 289, 290, 291, 292, 293, 294, 295, 296, 297, 298, 299, 300, 301, 302, 303, 304, 305, 306, 307, 308, 309, 310, 311, 312, 313, 314, 315, 37, 38, 40, 316, 317, 318, 319, 320, 321, 322, 323, 324, 325, 326, 327, 328, 329, 330, 331, 332, 333, 334, 335, 336, 337, 338, 339, 340, 341, 342, 343, 344, 345, 346, 372, 373, 374, 375, 347, 348, 354, 355, 356, 349, 350, 351, 352, 353, 357, 358, 359, 360, 361, 362, 363, 364, 365, 366, 367, 368, 369, 370, 371, 376, 377, 378, 379, 380, 381, 382, 383, 384, 385, 386] (by decide +kernel) (by decide +kernel)) (goodIn_sub (fun _ h => List.mem_cons_of_mem _ (List.mem_append_left _ (List.mem_append_right _ h))) (by decide +kernel))) (goodIn_sub (fun _ h => List.mem_cons_of_mem _ (List.mem_append_right _ h)) (by decide +kernel))
set_option maxRecDepth 20000 in
theorem gX6_sendOff_X6_happen : GoodIn wsX6_sendOff (wsV RX6 46 RX6 yX6_happen wsX6_happen) := goodIn_app (goodIn_of _ (by decide +kernel)) ggX6_sendOff_X6_happen
theorem dX6_sendOff_0 : decode cX6_sendOff 0 = .ok (.aload_n 0, 1) := by decide +kernel
theorem dX6_sendOff_1 : decode cX6_sendOff 1 = .ok (.getfield 12, 3) := by decide +kernel
theorem dX6_sendOff_4 : decode cX6_sendOff 4 = .ok (.iload_n 1, 1) := by decide +kernel
theorem dX6_sendOff_5 : decode cX6_sendOff 5 = .ok (.invokevirtual 50, 3) := by decide +kernel
theorem dX6_sendOff_8 : decode cX6_sendOff 8 = .ok (.astore_n 2, 1) := by decide +kernel
theorem dX6_sendOff_9 : decode cX6_sendOff 9 = .ok (.aload_n 2, 1) := by decide +kernel
theorem dX6_sendOff_10 : decode cX6_sendOff 10 = .ok (.invokevirtual 92, 3) := by decide +kernel
theorem dX6_sendOff_13 : decode cX6_sendOff 13 = .ok (.ifCond .ne 13, 3) := by decide +kernel
theorem dX6_sendOff_16 : decode cX6_sendOff 16 = .ok (.new 41, 3) := by decide +kernel
theorem dX6_sendOff_19 : decode cX6_sendOff 19 = .ok (.dup, 1) := by decide +kernel
theorem dX6_sendOff_20 : decode cX6_sendOff 20 = .ok (.ldc 95, 2) := by decide +kernel
theorem dX6_sendOff_22 : decode cX6_sendOff 22 = .ok (.invokespecial 45, 3) := by decide +kernel
theorem dX6_sendOff_25 : decode cX6_sendOff 25 = .ok (.athrow, 1) := by decide +kernel
theorem dX6_sendOff_26 : decode cX6_sendOff 26 = .ok (.aload_n 0, 1) := by decide +kernel
theorem dX6_sendOff_27 : decode cX6_sendOff 27 = .ok (.iconst 4, 1) := by decide +kernel
theorem dX6_sendOff_28 : decode cX6_sendOff 28 = .ok (.iload_n 1, 1) := by decide +kernel
theorem dX6_sendOff_29 : decode cX6_sendOff 29 = .ok (.iconst 0, 1) := by decide +kernel
theorem dX6_sendOff_30 : decode cX6_sendOff 30 = .ok (.iconst 0, 1) := by decide +kernel
theorem dX6_sendOff_31 : decode cX6_sendOff 31 = .ok (.invokevirtual 46, 3) := by decide +kernel
theorem dX6_sendOff_34 : decode cX6_sendOff 34 = .ok (.ireturn, 1) := by decide +kernel
set_option maxRecDepth 20000 in
theorem ggX6_addGang_X6_isWithin : GoodIn wsX6_addGang wsX6_isWithin := goodIn_r _ [10] (by decide +kernel) (by decide +kernel)
set_option maxRecDepth 20000 in
theorem gX6_addGang_X6_isWithin : GoodIn wsX6_addGang (va_wsS RX6 23 yX6_isWithin wsX6_isWithin) := goodIn_app (goodIn_of _ (by decide +kernel)) ggX6_addGang_X6_isWithin
set_option maxRecDepth 20000 in
theorem ggX6_addGang_Jx4a65c_size_8abf5 : GoodIn wsX6_addGang wsJx4a65c_size_8abf5 := goodIn_r _ [15, 16, 358, 359, 360] (by decide +kernel) (by decide +kernel)
set_option maxRecDepth 20000 in
theorem gX6_addGang_Jx4a65c_size_8abf5 : GoodIn wsX6_addGang (wsV RX6 37 RJx4a65c yJx4a65c_size_8abf5 wsJx4a65c_size_8abf5) := goodIn_app (goodIn_of _ (by decide +kernel)) ggX6_addGang_Jx4a65c_size_8abf5
set_option maxRecDepth 20000 in
theorem ggX6_addGang_X6_happen : GoodIn wsX6_addGang wsX6_happen := goodIn_ca (goodIn_ca (goodIn_r _ [20, 21, 22, 23, 24, 5, 25, 26, 27, 28, 29, 30, 31, 32, 33, 34, 11, 12, 13, 14, 15, 16, 35, 36, 37, 38, 39, 40, 41, 42, 43, 44, 45, 46, 47, 48, 49, 50, 51, 52, 53, 54, 55, 56, 57, 58, 59, 60, 61, 62, 63, 64, 65, 66, 67, 68, 69, 70, 71, 72, 73, 74, 75, 76, 77, 78, 79, 80, 81, 82, 83, 84, 85, 86, 87, 88, 89, 90, 91, 92, 93, 94, 95, 96, 97, 98, 99, 100, 101, 102, 103, 104, 105, 106, 107, 108, 109, 110, 111, 112, 113, 114, 115, 116, 117, 118, 119, 120, 121, 122, 123, 124, 125, 126, 127, 128, 129, 130, 131, 132, 133, 134, 135, 136, 137, 138, 139, 140, 141, 142, 143, 144, 145, 146, 147, 148, 149, 150, 151, 152, 153, 154, 155, 156, 157, 158, 159, 160, 161, 162, 163, 164, 165, 166, 167, 168, 169, 170, 171, 172, 173, 174, 175, 176, 177, 178, 179, 180, 181, 182, 183, 184, 185, 186, 187, 188, 189, 190, 191, 192, 193, 194, 195, 196, 197, 198, 199, 200, 201, 202, 203, 204, 205, 206, 207, 208, 209, 210, 211, 212, 213, 214, 215, 216, 217, 218, 219, 220, 221, 222, 223, 224, 225, 226, 227, 228, 229, 230, 231, 232, 233, 234, 235, 236, 237, 238, 239, 240, 241, 242, 243, 244, 245, 246, 247, 248, 249, 250, 251, 252, 253, 254, 255, 256, 257, 258, 259, 260, 261, 262, 263, 264, 265, 266, 267, 268, 269, 270, 271, 272, 273, 274, 275, 276, 277, 278, 279, 280, 281, 9, 282, 283, 284, 285, 286, 287, 288, 289, 290, 291, 292, 293, 294, 295, 296, 297, 298, 299, 300, 301, 302, 303, 304, 305, 306, 307, 308, 309, 310, 311, 312, 313, 314, 315, 316, 317, 318, 319, 320, 321, 322, 323, 324, 325, 326, 327, 328, 329, 330, 331, 332, 333, 334, 335, 336, 337, 338, 339, 340, 341, 342, 343, 344, 345, 346, 347, 348, 349, 350, 361, 362, 363, 364, 351, 352, 358, 359, 360, 353, 354, 355, 356, 357, 365, 366, 367, 368, 369, 370, 371, 372, 373, 374, 375, 376, 377, 378, 379, 380, 381, 382, 383, 384, 385, 386, 387, 388, 389, 390] (by decide +kernel) (by decide +kernel)) (goodIn_sub (fun _ h => List.mem_cons_of_mem _ (List.mem_append_left _ (List.mem_append_right _ h))) (by decide +kernel))) (goodIn_sub (fun _ h => List.mem_cons_of_mem _ (List.mem_append_right _ h)) (by decide +kernel))
set_option maxRecDepth 20000 in
theorem gX6_addGang_X6_happen : GoodIn wsX6_addGang (wsV RX6 46 RX6 yX6_happen wsX6_happen) := goodIn_app (goodIn_of _ (by decide +kernel)) ggX6_addGang_X6_happen
theorem dX6_addGang_0 : decode cX6_addGang 0 = .ok (.iload_n 1, 1) := by decide +kernel
theorem dX6_addGang_1 : decode cX6_addGang 1 = .ok (.iconst 1, 1) := by decide +kernel
theorem dX6_addGang_2 : decode cX6_addGang 2 = .ok (.bipush 9, 2) := by decide +kernel
theorem dX6_addGang_4 : decode cX6_addGang 4 = .ok (.invokestatic 23, 3) := by decide +kernel
theorem dX6_addGang_7 : decode cX6_addGang 7 = .ok (.ifCond .eq 26, 3) := by decide +kernel
theorem dX6_addGang_10 : decode cX6_addGang 10 = .ok (.iload_n 2, 1) := by decide +kernel
theorem dX6_addGang_11 : decode cX6_addGang 11 = .ok (.iconst 0, 1) := by decide +kernel
theorem dX6_addGang_12 : decode cX6_addGang 12 = .ok (.sipush 1999, 3) := by decide +kernel
theorem dX6_addGang_15 : decode cX6_addGang 15 = .ok (.invokestatic 23, 3) := by decide +kernel
theorem dX6_addGang_18 : decode cX6_addGang 18 = .ok (.ifCond .eq 15, 3) := by decide +kernel
theorem dX6_addGang_21 : decode cX6_addGang 21 = .ok (.iload_n 3, 1) := by decide +kernel
theorem dX6_addGang_22 : decode cX6_addGang 22 = .ok (.iload_n 2, 1) := by decide +kernel
theorem dX6_addGang_23 : decode cX6_addGang 23 = .ok (.if_icmp .le 10, 3) := by decide +kernel
theorem dX6_addGang_26 : decode cX6_addGang 26 = .ok (.iload_n 3, 1) := by decide +kernel
theorem dX6_addGang_27 : decode cX6_addGang 27 = .ok (.sipush 2000, 3) := by decide +kernel
theorem dX6_addGang_30 : decode cX6_addGang 30 = .ok (.if_icmp .le 13, 3) := by decide +kernel
theorem dX6_addGang_33 : decode cX6_addGang 33 = .ok (.new 27, 3) := by decide +kernel
theorem dX6_addGang_36 : decode cX6_addGang 36 = .ok (.dup, 1) := by decide +kernel
theorem dX6_addGang_37 : decode cX6_addGang 37 = .ok (.ldc 97, 2) := by decide +kernel
theorem dX6_addGang_39 : decode cX6_addGang 39 = .ok (.invokespecial 31, 3) := by decide +kernel
theorem dX6_addGang_42 : decode cX6_addGang 42 = .ok (.athrow, 1) := by decide +kernel
theorem dX6_addGang_43 : decode cX6_addGang 43 = .ok (.aload_n 0, 1) := by decide +kernel
theorem dX6_addGang_44 : decode cX6_addGang 44 = .ok (.getfield 12, 3) := by decide +kernel
theorem dX6_addGang_47 : decode cX6_addGang 47 = .ok (.getfield 99, 3) := by decide +kernel
theorem dX6_addGang_50 : decode cX6_addGang 50 = .ok (.invokevirtual 37, 3) := by decide +kernel
theorem dX6_addGang_53 : decode cX6_addGang 53 = .ok (.iconst 4, 1) := by decide +kernel
theorem dX6_addGang_54 : decode cX6_addGang 54 = .ok (.if_icmp .lt 13, 3) := by decide +kernel
theorem dX6_addGang_57 : decode cX6_addGang 57 = .ok (.new 41, 3) := by decide +kernel
theorem dX6_addGang_60 : decode cX6_addGang 60 = .ok (.dup, 1) := by decide +kernel
theorem dX6_addGang_61 : decode cX6_addGang 61 = .ok (.ldc 102, 2) := by decide +kernel
theorem dX6_addGang_63 : decode cX6_addGang 63 = .ok (.invokespecial 45, 3) := by decide +kernel
theorem dX6_addGang_66 : decode cX6_addGang 66 = .ok (.athrow, 1) := by decide +kernel
theorem dX6_addGang_67 : decode cX6_addGang 67 = .ok (.aload_n 0, 1) := by decide +kernel
theorem dX6_addGang_68 : decode cX6_addGang 68 = .ok (.iconst 5, 1) := by decide +kernel
theorem dX6_addGang_69 : decode cX6_addGang 69 = .ok (.iload_n 1, 1) := by decide +kernel
theorem dX6_addGang_70 : decode cX6_addGang 70 = .ok (.iload_n 2, 1) := by decide +kernel
theorem dX6_addGang_71 : decode cX6_addGang 71 = .ok (.iload_n 3, 1) := by decide +kernel
theorem dX6_addGang_72 : decode cX6_addGang 72 = .ok (.invokevirtual 46, 3) := by decide +kernel
theorem dX6_addGang_75 : decode cX6_addGang 75 = .ok (.ireturn, 1) := by decide +kernel
set_option maxRecDepth 20000 in
theorem ggX6_moveGang_X0_existingGang : GoodIn wsX6_moveGang wsX0_existingGang := goodIn_ca (goodIn_r _ [6, 7, 8, 9, 10, 11, 12, 13, 14, 15, 16, 17, 18, 19, 20, 21, 22, 23, 24, 25, 26, 27, 28, 29, 30, 31, 32, 33, 353, 354, 355, 356, 357, 358, 359, 360] (by decide +kernel) (by decide +kernel)) (goodIn_sub (fun _ h => List.mem_cons_of_mem _ (List.mem_append_left _ (List.mem_append_left _ (List.mem_append_right _ h)))) (by decide +kernel))
set_option maxRecDepth 20000 in
theorem gX6_moveGang_X0_existingGang : GoodIn wsX6_moveGang (wsV RX6 104 RX0 yX0_existingGang wsX0_existingGang) := goodIn_app (goodIn_of _ (by decide +kernel)) ggX6_moveGang_X0_existingGang
set_option maxRecDepth 20000 in
theorem ggX6_moveGang_X6_requireDoor : GoodIn wsX6_moveGang wsX6_requireDoor := goodIn_ca (goodIn_r _ [37, 38, 8, 39, 40, 36, 41] (by decide +kernel) (by decide +kernel)) (goodIn_sub (fun _ h => List.mem_cons_of_mem _ (List.mem_append_left _ (List.mem_append_right _ h))) (by decide +kernel))
set_option maxRecDepth 20000 in
theorem gX6_moveGang_X6_requireDoor : GoodIn wsX6_moveGang (va_wsS RX6 71 yX6_requireDoor wsX6_requireDoor) := goodIn_app (goodIn_of _ (by decide +kernel)) ggX6_moveGang_X6_requireDoor
set_option maxRecDepth 20000 in
theorem ggX6_moveGang_X6_happen : GoodIn wsX6_moveGang wsX6_happen := goodIn_ca (goodIn_ca (goodIn_r _ [45, 46, 47, 48, 49, 1, 50, 51, 52, 53, 54, 55, 56, 57, 58, 59, 60, 12, 13, 14, 15, 16, 61, 62, 63, 64, 65, 66, 33, 67, 68, 69, 70, 71, 72, 73, 74, 75, 76, 77, 78, 79, 80, 81, 82, 83, 84, 85, 86, 87, 88, 89, 90, 91, 92, 93, 94, 95, 96, 97, 98, 99, 100, 101, 102, 103, 104, 105, 106, 107, 108, 109, 110, 111, 112, 113, 114, 115, 116, 5, 117, 118, 119, 120, 121, 122, 123, 124, 125, 126, 127, 128, 129, 130, 11, 131, 132, 133, 134, 135, 136, 137, 138, 139, 140, 141, 142, 143, 144, 145, 146, 147, 148, 149, 150, 151, 152, 153, 154, 155, 156, 157, 7, 8, 158, 17, 18, 19, 20, 21, 22, 23, 24, 25, 26, 27, 28, 29, 30, 31, 32, 159, 160, 161, 162, 163, 164, 165, 166, 167, 168, 169, 170, 171, 172, 173, 174, 175, 176, 177, 178, 179, 180, 181, 182, 183, 184, 185, 186, 187, 188, 189, 190, 191, 192, 193, 194, 195, 196, 197, 198, 199, 200, 201, 202, 203, 204, 205, 206, 207, 208, 209, 210, 211, 212, 213, 214, 9, 215, 216, 217, 218, 219, 220, 221, 222, 223, 224, 225, 226, 3, 4, 6, 10, 227, 228, 229, 230, 231, 232, 233, 234, 235, 236, 237, 238, 239, 240, 241, 242, 243, 244, 245, 246, 247, 248, 249, 250, 251, 252, 253, 254, 255, 256, 257, 258, 259, 260, 261, 262, 263, 264, 265, 266, 267, 268, 269, 270, 271, 272, 273, 274, 275, 276, 277, 278, 279, 280, 281, 36, 282, 283, 284, 285, 286, 287, 288, 289, 290, 291, 292, 293, 294, 295, 296, 297, 298, 299, 300, 301, 302, 303, 304, 305, 306, 307, 308, 309, 310, 311, 312, 313, 314, 315, 316, 317, 318, 319, 320, 321, 322, 323, 324, 325, 326, 327, 328, 329, 330, 331, 332, 333, 334, 335, 336, 337, 338, 339, 340, 341, 342, 343, 344, 345, 346, 347, 348, 349, 350, 361, 362, 363, 364, 351, 352, 358, 359, 360, 353, 354, 355, 356, 357, 365, 366, 367, 368, 369, 370, 371, 372, 373, 374, 375, 376, 377, 378, 379, 380, 381, 382, 383, 384, 385, 386, 387, 388, 389, 390] (by decide +kernel) (by decide +kernel)) (goodIn_sub (fun _ h => List.mem_cons_of_mem _ (List.mem_append_left _ (List.mem_append_left _ (List.mem_append_right _ h)))) (by decide +kernel))) (goodIn_sub (fun _ h => List.mem_cons_of_mem _ (List.mem_append_right _ h)) (by decide +kernel))
set_option maxRecDepth 20000 in
theorem gX6_moveGang_X6_happen : GoodIn wsX6_moveGang (wsV RX6 46 RX6 yX6_happen wsX6_happen) := goodIn_app (goodIn_of _ (by decide +kernel)) ggX6_moveGang_X6_happen
theorem dX6_moveGang_0 : decode cX6_moveGang 0 = .ok (.aload_n 0, 1) := by decide +kernel
theorem dX6_moveGang_1 : decode cX6_moveGang 1 = .ok (.getfield 12, 3) := by decide +kernel
theorem dX6_moveGang_4 : decode cX6_moveGang 4 = .ok (.iload_n 1, 1) := by decide +kernel
theorem dX6_moveGang_5 : decode cX6_moveGang 5 = .ok (.invokevirtual 104, 3) := by decide +kernel
theorem dX6_moveGang_8 : decode cX6_moveGang 8 = .ok (.pop, 1) := by decide +kernel
theorem dX6_moveGang_9 : decode cX6_moveGang 9 = .ok (.iload_n 2, 1) := by decide +kernel
theorem dX6_moveGang_10 : decode cX6_moveGang 10 = .ok (.iconst (-1), 1) := by decide +kernel
theorem dX6_moveGang_11 : decode cX6_moveGang 11 = .ok (.if_icmp .eq 7, 3) := by decide +kernel
theorem dX6_moveGang_14 : decode cX6_moveGang 14 = .ok (.iload_n 2, 1) := by decide +kernel
theorem dX6_moveGang_15 : decode cX6_moveGang 15 = .ok (.invokestatic 71, 3) := by decide +kernel
theorem dX6_moveGang_18 : decode cX6_moveGang 18 = .ok (.aload_n 0, 1) := by decide +kernel
theorem dX6_moveGang_19 : decode cX6_moveGang 19 = .ok (.bipush 6, 2) := by decide +kernel
theorem dX6_moveGang_21 : decode cX6_moveGang 21 = .ok (.iload_n 1, 1) := by decide +kernel
theorem dX6_moveGang_22 : decode cX6_moveGang 22 = .ok (.iload_n 2, 1) := by decide +kernel
theorem dX6_moveGang_23 : decode cX6_moveGang 23 = .ok (.iconst 0, 1) := by decide +kernel
theorem dX6_moveGang_24 : decode cX6_moveGang 24 = .ok (.invokevirtual 46, 3) := by decide +kernel
theorem dX6_moveGang_27 : decode cX6_moveGang 27 = .ok (.ireturn, 1) := by decide +kernel
set_option maxRecDepth 20000 in
theorem ggX6_pass_X6_isWithin : GoodIn wsX6_pass wsX6_isWithin := goodIn_r _ [10] (by decide +kernel) (by decide +kernel)
set_option maxRecDepth 20000 in
theorem gX6_pass_X6_isWithin : GoodIn wsX6_pass (va_wsS RX6 23 yX6_isWithin wsX6_isWithin) := goodIn_app (goodIn_of _ (by decide +kernel)) ggX6_pass_X6_isWithin
set_option maxRecDepth 20000 in
theorem ggX6_pass_X6_happen : GoodIn wsX6_pass wsX6_happen := goodIn_ca (goodIn_ca (goodIn_r _ [14, 15, 16, 17, 18, 5, 19, 20, 21, 22, 23, 24, 25, 26, 27, 28, 29, 30, 31, 32, 33, 34, 35, 36, 37, 38, 39, 40, 41, 42, 43, 44, 45, 46, 47, 48, 49, 50, 51, 52, 53, 54, 55, 56, 57, 58, 59, 60, 61, 62, 63, 64, 65, 66, 67, 68, 69, 70, 71, 72, 73, 74, 75, 76, 77, 78, 79, 80, 81, 82, 83, 84, 85, 86, 87, 88, 89, 90, 91, 92, 93, 94, 95, 96, 97, 98, 99, 100, 101, 102, 103, 104, 105, 106, 107, 108, 109, 110, 111, 112, 113, 114, 115, 116, 117, 118, 119, 120, 121, 122, 123, 124, 125, 126, 127, 128, 129, 130, 131, 132, 133, 134, 135, 136, 137, 138, 139, 140, 141, 142, 143, 144, 145, 146, 147, 148, 149, 150, 151, 152, 153, 154, 155, 156, 157, 158, 159, 160, 161, 162, 163, 164, 165, 166, 167, 168, 169, 170, 171, 172, 173, 174, 175, 176, 177, 178, 179, 180, 181, 182, 183, 184, 185, 186, 187, 188, 189, 190, 191, 192, 193, 194, 195, 196, 197, 198, 199, 200, 201, 202, 203, 204, 205, 206, 207, 208, 209, 210, 211, 212, 213, 214, 215, 216, 217, 218, 219, 220, 221, 222, 223, 224, 225, 226, 227, 228, 229, 230, 231, 232, 233, 234, 235, 236, 237, 238, 239, 240, 241, 242, 243, 244, 245, 246, 247, 248, 249, 250, 251, 252, 253, 254, 255, 256, 257, 258, 259, 260, 261, 262, 263, 264, 265, 266, 267, 268, 269, 270, 271, 272, 273, 274, 275, 276, 277, 278, 279, 280, 281, 9, 282, 283, 284, 285, 286, 287, 288, 289, 290, 291, 292, 293, 294, 295, 296, 297, 298, 299, 300, 301, 302, 303, 304, 305, 306, 307, 308, 309, 310, 311, 312, 313, 314, 315, 316, 317, 318, 319, 320, 321, 322, 323, 324, 325, 326, 327, 328, 329, 330, 331, 332, 333, 334, 335, 336, 337, 338, 339, 340, 341, 342, 343, 344, 345, 346, 347, 348, 349, 350, 358, 359, 360, 361, 351, 352, 362, 363, 364, 353, 354, 355, 356, 357, 365, 366, 367, 368, 369, 370, 371, 372, 373, 374, 375, 376, 377, 378, 379, 380, 381, 382, 383, 384, 385, 386, 387, 388, 389, 390] (by decide +kernel) (by decide +kernel)) (goodIn_sub (fun _ h => List.mem_cons_of_mem _ (List.mem_append_left _ (List.mem_append_right _ h))) (by decide +kernel))) (goodIn_sub (fun _ h => List.mem_cons_of_mem _ (List.mem_append_right _ h)) (by decide +kernel))
set_option maxRecDepth 20000 in
theorem gX6_pass_X6_happen : GoodIn wsX6_pass (wsV RX6 46 RX6 yX6_happen wsX6_happen) := goodIn_app (goodIn_of _ (by decide +kernel)) ggX6_pass_X6_happen
theorem dX6_pass_0 : decode cX6_pass 0 = .ok (.iload_n 1, 1) := by decide +kernel
theorem dX6_pass_1 : decode cX6_pass 1 = .ok (.iconst 1, 1) := by decide +kernel
theorem dX6_pass_2 : decode cX6_pass 2 = .ok (.sipush 300, 3) := by decide +kernel
theorem dX6_pass_5 : decode cX6_pass 5 = .ok (.invokestatic 23, 3) := by decide +kernel
theorem dX6_pass_8 : decode cX6_pass 8 = .ok (.ifCond .ne 13, 3) := by decide +kernel
theorem dX6_pass_11 : decode cX6_pass 11 = .ok (.new 27, 3) := by decide +kernel
theorem dX6_pass_14 : decode cX6_pass 14 = .ok (.dup, 1) := by decide +kernel
theorem dX6_pass_15 : decode cX6_pass 15 = .ok (.ldc 108, 2) := by decide +kernel
theorem dX6_pass_17 : decode cX6_pass 17 = .ok (.invokespecial 31, 3) := by decide +kernel
theorem dX6_pass_20 : decode cX6_pass 20 = .ok (.athrow, 1) := by decide +kernel
theorem dX6_pass_21 : decode cX6_pass 21 = .ok (.aload_n 0, 1) := by decide +kernel
theorem dX6_pass_22 : decode cX6_pass 22 = .ok (.getfield 12, 3) := by decide +kernel
theorem dX6_pass_25 : decode cX6_pass 25 = .ok (.getfield 110, 3) := by decide +kernel
theorem dX6_pass_28 : decode cX6_pass 28 = .ok (.iload_n 1, 1) := by decide +kernel
theorem dX6_pass_29 : decode cX6_pass 29 = .ok (.iadd, 1) := by decide +kernel
theorem dX6_pass_30 : decode cX6_pass 30 = .ok (.sipush 2000, 3) := by decide +kernel
theorem dX6_pass_33 : decode cX6_pass 33 = .ok (.if_icmp .le 13, 3) := by decide +kernel
theorem dX6_pass_36 : decode cX6_pass 36 = .ok (.new 41, 3) := by decide +kernel
theorem dX6_pass_39 : decode cX6_pass 39 = .ok (.dup, 1) := by decide +kernel
theorem dX6_pass_40 : decode cX6_pass 40 = .ok (.ldc 113, 2) := by decide +kernel
theorem dX6_pass_42 : decode cX6_pass 42 = .ok (.invokespecial 45, 3) := by decide +kernel
theorem dX6_pass_45 : decode cX6_pass 45 = .ok (.athrow, 1) := by decide +kernel
theorem dX6_pass_46 : decode cX6_pass 46 = .ok (.aload_n 0, 1) := by decide +kernel
theorem dX6_pass_47 : decode cX6_pass 47 = .ok (.bipush 7, 2) := by decide +kernel
theorem dX6_pass_49 : decode cX6_pass 49 = .ok (.iload_n 1, 1) := by decide +kernel
theorem dX6_pass_50 : decode cX6_pass 50 = .ok (.iconst 0, 1) := by decide +kernel
theorem dX6_pass_51 : decode cX6_pass 51 = .ok (.iconst 0, 1) := by decide +kernel
theorem dX6_pass_52 : decode cX6_pass 52 = .ok (.invokevirtual 46, 3) := by decide +kernel
theorem dX6_pass_55 : decode cX6_pass 55 = .ok (.ireturn, 1) := by decide +kernel
theorem dX6_now_0 : decode cX6_now 0 = .ok (.aload_n 0, 1) := by decide +kernel
theorem dX6_now_1 : decode cX6_now 1 = .ok (.getfield 12, 3) := by decide +kernel
theorem dX6_now_4 : decode cX6_now 4 = .ok (.getfield 110, 3) := by decide +kernel
theorem dX6_now_7 : decode cX6_now 7 = .ok (.ireturn, 1) := by decide +kernel
set_option maxRecDepth 20000 in
theorem ggX6_power_X6_requireDoor : GoodIn wsX6_power wsX6_requireDoor := goodIn_ca (goodIn_r _ [5, 6, 7, 8, 9, 4, 10] (by decide +kernel) (by decide +kernel)) (goodIn_sub (fun _ h => List.mem_cons_of_mem _ (List.mem_append_right _ h)) (by decide +kernel))
set_option maxRecDepth 20000 in
theorem gX6_power_X6_requireDoor : GoodIn wsX6_power (va_wsS RX6 71 yX6_requireDoor wsX6_requireDoor) := goodIn_app (goodIn_of _ (by decide +kernel)) ggX6_power_X6_requireDoor
set_option maxRecDepth 20000 in
theorem ggX6_power_X0_powerAt : GoodIn wsX6_power wsX0_powerAt := goodIn_r _ [15, 16, 17, 18, 19, 20, 21, 22, 23, 24, 25, 26, 27, 28, 29, 30, 31, 32, 33, 34, 35, 36, 37, 38, 39, 40, 41, 42, 43, 44, 45, 46, 47, 48, 49, 50, 53, 54, 55, 56, 57, 58, 59, 60, 61, 62, 63, 64] (by decide +kernel) (by decide +kernel)
set_option maxRecDepth 20000 in
theorem gX6_power_X0_powerAt : GoodIn wsX6_power (wsV RX6 115 RX0 yX0_powerAt wsX0_powerAt) := goodIn_app (goodIn_of _ (by decide +kernel)) ggX6_power_X0_powerAt
theorem dX6_power_0 : decode cX6_power 0 = .ok (.iload_n 1, 1) := by decide +kernel
theorem dX6_power_1 : decode cX6_power 1 = .ok (.invokestatic 71, 3) := by decide +kernel
theorem dX6_power_4 : decode cX6_power 4 = .ok (.aload_n 0, 1) := by decide +kernel
theorem dX6_power_5 : decode cX6_power 5 = .ok (.getfield 12, 3) := by decide +kernel
theorem dX6_power_8 : decode cX6_power 8 = .ok (.iload_n 1, 1) := by decide +kernel
theorem dX6_power_9 : decode cX6_power 9 = .ok (.invokevirtual 115, 3) := by decide +kernel
theorem dX6_power_12 : decode cX6_power 12 = .ok (.ireturn, 1) := by decide +kernel
set_option maxRecDepth 20000 in
theorem ggX6_stateOf_X0_existingLorry : GoodIn wsX6_stateOf wsX0_existingLorry := goodIn_ca (goodIn_r _ [7, 8, 9, 10, 11, 12, 13, 14, 15, 16, 17, 18, 19, 20, 21, 22, 23, 24, 25, 26, 27, 28, 29, 30, 31, 32, 33, 34, 52, 53, 54, 55, 56, 57, 58, 59] (by decide +kernel) (by decide +kernel)) (goodIn_sub (fun _ h => List.mem_cons_of_mem _ (List.mem_append_right _ h)) (by decide +kernel))
set_option maxRecDepth 20000 in
theorem gX6_stateOf_X0_existingLorry : GoodIn wsX6_stateOf (wsV RX6 50 RX0 yX0_existingLorry wsX0_existingLorry) := goodIn_app (goodIn_of _ (by decide +kernel)) ggX6_stateOf_X0_existingLorry
theorem dX6_stateOf_0 : decode cX6_stateOf 0 = .ok (.aload_n 0, 1) := by decide +kernel
theorem dX6_stateOf_1 : decode cX6_stateOf 1 = .ok (.getfield 12, 3) := by decide +kernel
theorem dX6_stateOf_4 : decode cX6_stateOf 4 = .ok (.iload_n 1, 1) := by decide +kernel
theorem dX6_stateOf_5 : decode cX6_stateOf 5 = .ok (.invokevirtual 50, 3) := by decide +kernel
theorem dX6_stateOf_8 : decode cX6_stateOf 8 = .ok (.getfield 77, 3) := by decide +kernel
theorem dX6_stateOf_11 : decode cX6_stateOf 11 = .ok (.ireturn, 1) := by decide +kernel
set_option maxRecDepth 20000 in
theorem ggX6_lorryAt_X6_requireDoor : GoodIn wsX6_lorryAt wsX6_requireDoor := goodIn_ca (goodIn_r _ [8, 9, 10, 11, 12, 7, 13] (by decide +kernel) (by decide +kernel)) (goodIn_sub (fun _ h => List.mem_cons_of_mem _ (List.mem_append_right _ h)) (by decide +kernel))
set_option maxRecDepth 20000 in
theorem gX6_lorryAt_X6_requireDoor : GoodIn wsX6_lorryAt (va_wsS RX6 71 yX6_requireDoor wsX6_requireDoor) := goodIn_app (goodIn_of _ (by decide +kernel)) ggX6_lorryAt_X6_requireDoor
set_option maxRecDepth 20000 in
theorem ggX6_lorryAt_X0_standingAt : GoodIn wsX6_lorryAt wsX0_standingAt := goodIn_r _ [18, 19, 37, 38, 39, 40, 41] (by decide +kernel) (by decide +kernel)
set_option maxRecDepth 20000 in
theorem gX6_lorryAt_X0_standingAt : GoodIn wsX6_lorryAt (wsV RX6 119 RX0 yX0_standingAt wsX0_standingAt) := goodIn_app (goodIn_of _ (by decide +kernel)) ggX6_lorryAt_X0_standingAt
theorem dX6_lorryAt_0 : decode cX6_lorryAt 0 = .ok (.iload_n 1, 1) := by decide +kernel
theorem dX6_lorryAt_1 : decode cX6_lorryAt 1 = .ok (.invokestatic 71, 3) := by decide +kernel
theorem dX6_lorryAt_4 : decode cX6_lorryAt 4 = .ok (.aload_n 0, 1) := by decide +kernel
theorem dX6_lorryAt_5 : decode cX6_lorryAt 5 = .ok (.getfield 12, 3) := by decide +kernel
theorem dX6_lorryAt_8 : decode cX6_lorryAt 8 = .ok (.iload_n 1, 1) := by decide +kernel
theorem dX6_lorryAt_9 : decode cX6_lorryAt 9 = .ok (.invokevirtual 119, 3) := by decide +kernel
theorem dX6_lorryAt_12 : decode cX6_lorryAt 12 = .ok (.astore_n 2, 1) := by decide +kernel
theorem dX6_lorryAt_13 : decode cX6_lorryAt 13 = .ok (.aload_n 2, 1) := by decide +kernel
theorem dX6_lorryAt_14 : decode cX6_lorryAt 14 = .ok (.ifnonnull 13, 3) := by decide +kernel
theorem dX6_lorryAt_17 : decode cX6_lorryAt 17 = .ok (.new 122, 3) := by decide +kernel
theorem dX6_lorryAt_20 : decode cX6_lorryAt 20 = .ok (.dup, 1) := by decide +kernel
theorem dX6_lorryAt_21 : decode cX6_lorryAt 21 = .ok (.ldc 124, 2) := by decide +kernel
theorem dX6_lorryAt_23 : decode cX6_lorryAt 23 = .ok (.invokespecial 126, 3) := by decide +kernel
theorem dX6_lorryAt_26 : decode cX6_lorryAt 26 = .ok (.athrow, 1) := by decide +kernel
theorem dX6_lorryAt_27 : decode cX6_lorryAt 27 = .ok (.aload_n 2, 1) := by decide +kernel
theorem dX6_lorryAt_28 : decode cX6_lorryAt 28 = .ok (.getfield 127, 3) := by decide +kernel
theorem dX6_lorryAt_31 : decode cX6_lorryAt 31 = .ok (.ireturn, 1) := by decide +kernel
set_option maxRecDepth 20000 in
theorem ggX6_inQueue_X6_requireDoor : GoodIn wsX6_inQueue wsX6_requireDoor := goodIn_ca (goodIn_r _ [8, 9, 10, 11, 12, 7, 13] (by decide +kernel) (by decide +kernel)) (goodIn_sub (fun _ h => List.mem_cons_of_mem _ (List.mem_append_right _ h)) (by decide +kernel))
set_option maxRecDepth 20000 in
theorem gX6_inQueue_X6_requireDoor : GoodIn wsX6_inQueue (va_wsS RX6 71 yX6_requireDoor wsX6_requireDoor) := goodIn_app (goodIn_of _ (by decide +kernel)) ggX6_inQueue_X6_requireDoor
set_option maxRecDepth 20000 in
theorem ggX6_inQueue_X0_queuedFor : GoodIn wsX6_inQueue wsX0_queuedFor := goodIn_r _ [18, 19, 20, 21, 22, 23, 24, 25, 26, 27, 28, 29, 30, 31, 32, 33, 34, 35, 36, 37, 38, 39, 40, 41, 42, 43, 44, 45, 46, 47, 48, 49, 50, 51, 52, 53, 17, 54, 55, 56, 57, 58, 59, 60, 61, 79, 80, 81, 82, 83, 84, 85, 86, 64, 65, 66, 67, 68, 69, 70, 71, 72, 73, 74, 75, 76, 77, 78] (by decide +kernel) (by decide +kernel)
set_option maxRecDepth 20000 in
theorem gX6_inQueue_X0_queuedFor : GoodIn wsX6_inQueue (wsV RX6 130 RX0 yX0_queuedFor wsX0_queuedFor) := goodIn_app (goodIn_of _ (by decide +kernel)) ggX6_inQueue_X0_queuedFor
theorem dX6_inQueue_0 : decode cX6_inQueue 0 = .ok (.iload_n 1, 1) := by decide +kernel
theorem dX6_inQueue_1 : decode cX6_inQueue 1 = .ok (.invokestatic 71, 3) := by decide +kernel
theorem dX6_inQueue_4 : decode cX6_inQueue 4 = .ok (.aload_n 0, 1) := by decide +kernel
theorem dX6_inQueue_5 : decode cX6_inQueue 5 = .ok (.getfield 12, 3) := by decide +kernel
theorem dX6_inQueue_8 : decode cX6_inQueue 8 = .ok (.iload_n 1, 1) := by decide +kernel
theorem dX6_inQueue_9 : decode cX6_inQueue 9 = .ok (.iload_n 2, 1) := by decide +kernel
theorem dX6_inQueue_10 : decode cX6_inQueue 10 = .ok (.invokevirtual 130, 3) := by decide +kernel
theorem dX6_inQueue_13 : decode cX6_inQueue 13 = .ok (.astore_n 3, 1) := by decide +kernel
theorem dX6_inQueue_14 : decode cX6_inQueue 14 = .ok (.aload_n 3, 1) := by decide +kernel
theorem dX6_inQueue_15 : decode cX6_inQueue 15 = .ok (.ifnonnull 13, 3) := by decide +kernel
theorem dX6_inQueue_18 : decode cX6_inQueue 18 = .ok (.new 122, 3) := by decide +kernel
theorem dX6_inQueue_21 : decode cX6_inQueue 21 = .ok (.dup, 1) := by decide +kernel
theorem dX6_inQueue_22 : decode cX6_inQueue 22 = .ok (.ldc 134, 2) := by decide +kernel
theorem dX6_inQueue_24 : decode cX6_inQueue 24 = .ok (.invokespecial 126, 3) := by decide +kernel
theorem dX6_inQueue_27 : decode cX6_inQueue 27 = .ok (.athrow, 1) := by decide +kernel
theorem dX6_inQueue_28 : decode cX6_inQueue 28 = .ok (.aload_n 3, 1) := by decide +kernel
theorem dX6_inQueue_29 : decode cX6_inQueue 29 = .ok (.getfield 127, 3) := by decide +kernel
theorem dX6_inQueue_32 : decode cX6_inQueue 32 = .ok (.ireturn, 1) := by decide +kernel
set_option maxRecDepth 20000 in
theorem ggX6_unloaded_X0_existingTransfer : GoodIn wsX6_unloaded wsX0_existingTransfer := goodIn_ca (goodIn_r _ [7, 8, 9, 10, 11, 12, 13, 14, 15, 16, 17, 18, 19, 20, 21, 22, 23, 24, 25, 26, 27, 28, 29, 30, 31, 32, 33, 34, 44, 45, 46, 47, 48, 49, 50, 51] (by decide +kernel) (by decide +kernel)) (goodIn_sub (fun _ h => List.mem_cons_of_mem _ (List.mem_append_right _ h)) (by decide +kernel))
set_option maxRecDepth 20000 in
theorem gX6_unloaded_X0_existingTransfer : GoodIn wsX6_unloaded (wsV RX6 136 RX0 yX0_existingTransfer wsX0_existingTransfer) := goodIn_app (goodIn_of _ (by decide +kernel)) ggX6_unloaded_X0_existingTransfer
theorem dX6_unloaded_0 : decode cX6_unloaded 0 = .ok (.aload_n 0, 1) := by decide +kernel
theorem dX6_unloaded_1 : decode cX6_unloaded 1 = .ok (.getfield 12, 3) := by decide +kernel
theorem dX6_unloaded_4 : decode cX6_unloaded 4 = .ok (.iload_n 1, 1) := by decide +kernel
theorem dX6_unloaded_5 : decode cX6_unloaded 5 = .ok (.invokevirtual 136, 3) := by decide +kernel
theorem dX6_unloaded_8 : decode cX6_unloaded 8 = .ok (.getfield 140, 3) := by decide +kernel
theorem dX6_unloaded_11 : decode cX6_unloaded 11 = .ok (.ireturn, 1) := by decide +kernel
set_option maxRecDepth 20000 in
theorem ggX6_ready_X0_existingTransfer : GoodIn wsX6_ready wsX0_existingTransfer := goodIn_ca (goodIn_r _ [7, 8, 9, 10, 11, 12, 13, 14, 15, 16, 17, 18, 19, 20, 21, 22, 23, 24, 25, 26, 27, 28, 29, 30, 31, 32, 33, 34, 44, 45, 46, 47, 48, 49, 50, 51] (by decide +kernel) (by decide +kernel)) (goodIn_sub (fun _ h => List.mem_cons_of_mem _ (List.mem_append_right _ h)) (by decide +kernel))
set_option maxRecDepth 20000 in
theorem gX6_ready_X0_existingTransfer : GoodIn wsX6_ready (wsV RX6 136 RX0 yX0_existingTransfer wsX0_existingTransfer) := goodIn_app (goodIn_of _ (by decide +kernel)) ggX6_ready_X0_existingTransfer
theorem dX6_ready_0 : decode cX6_ready 0 = .ok (.aload_n 0, 1) := by decide +kernel
theorem dX6_ready_1 : decode cX6_ready 1 = .ok (.getfield 12, 3) := by decide +kernel
theorem dX6_ready_4 : decode cX6_ready 4 = .ok (.iload_n 1, 1) := by decide +kernel
theorem dX6_ready_5 : decode cX6_ready 5 = .ok (.invokevirtual 136, 3) := by decide +kernel
theorem dX6_ready_8 : decode cX6_ready 8 = .ok (.getfield 145, 3) := by decide +kernel
theorem dX6_ready_11 : decode cX6_ready 11 = .ok (.ireturn, 1) := by decide +kernel
set_option maxRecDepth 20000 in
theorem ggX6_loaded_X0_existingTransfer : GoodIn wsX6_loaded wsX0_existingTransfer := goodIn_ca (goodIn_r _ [7, 8, 9, 10, 11, 12, 13, 14, 15, 16, 17, 18, 19, 20, 21, 22, 23, 24, 25, 26, 27, 28, 29, 30, 31, 32, 33, 34, 44, 45, 46, 47, 48, 49, 50, 51] (by decide +kernel) (by decide +kernel)) (goodIn_sub (fun _ h => List.mem_cons_of_mem _ (List.mem_append_right _ h)) (by decide +kernel))
set_option maxRecDepth 20000 in
theorem gX6_loaded_X0_existingTransfer : GoodIn wsX6_loaded (wsV RX6 136 RX0 yX0_existingTransfer wsX0_existingTransfer) := goodIn_app (goodIn_of _ (by decide +kernel)) ggX6_loaded_X0_existingTransfer
theorem dX6_loaded_0 : decode cX6_loaded 0 = .ok (.aload_n 0, 1) := by decide +kernel
theorem dX6_loaded_1 : decode cX6_loaded 1 = .ok (.getfield 12, 3) := by decide +kernel
theorem dX6_loaded_4 : decode cX6_loaded 4 = .ok (.iload_n 1, 1) := by decide +kernel
theorem dX6_loaded_5 : decode cX6_loaded 5 = .ok (.invokevirtual 136, 3) := by decide +kernel
theorem dX6_loaded_8 : decode cX6_loaded 8 = .ok (.getfield 148, 3) := by decide +kernel
theorem dX6_loaded_11 : decode cX6_loaded 11 = .ok (.ireturn, 1) := by decide +kernel
set_option maxRecDepth 20000 in
theorem ggX6_leftAt_X0_existingLorry : GoodIn wsX6_leftAt wsX0_existingLorry := goodIn_ca (goodIn_r _ [10, 11, 12, 13, 14, 15, 16, 17, 18, 19, 20, 21, 22, 23, 24, 25, 26, 27, 28, 29, 30, 31, 32, 33, 34, 35, 36, 37, 55, 56, 57, 58, 59, 60, 61, 62] (by decide +kernel) (by decide +kernel)) (goodIn_sub (fun _ h => List.mem_cons_of_mem _ (List.mem_append_right _ h)) (by decide +kernel))
set_option maxRecDepth 20000 in
theorem gX6_leftAt_X0_existingLorry : GoodIn wsX6_leftAt (wsV RX6 50 RX0 yX0_existingLorry wsX0_existingLorry) := goodIn_app (goodIn_of _ (by decide +kernel)) ggX6_leftAt_X0_existingLorry
theorem dX6_leftAt_0 : decode cX6_leftAt 0 = .ok (.aload_n 0, 1) := by decide +kernel
theorem dX6_leftAt_1 : decode cX6_leftAt 1 = .ok (.getfield 12, 3) := by decide +kernel
theorem dX6_leftAt_4 : decode cX6_leftAt 4 = .ok (.iload_n 1, 1) := by decide +kernel
theorem dX6_leftAt_5 : decode cX6_leftAt 5 = .ok (.invokevirtual 50, 3) := by decide +kernel
theorem dX6_leftAt_8 : decode cX6_leftAt 8 = .ok (.astore_n 2, 1) := by decide +kernel
theorem dX6_leftAt_9 : decode cX6_leftAt 9 = .ok (.aload_n 2, 1) := by decide +kernel
theorem dX6_leftAt_10 : decode cX6_leftAt 10 = .ok (.getfield 77, 3) := by decide +kernel
theorem dX6_leftAt_13 : decode cX6_leftAt 13 = .ok (.bipush 108, 2) := by decide +kernel
theorem dX6_leftAt_15 : decode cX6_leftAt 15 = .ok (.if_icmp .eq 13, 3) := by decide +kernel
theorem dX6_leftAt_18 : decode cX6_leftAt 18 = .ok (.new 122, 3) := by decide +kernel
theorem dX6_leftAt_21 : decode cX6_leftAt 21 = .ok (.dup, 1) := by decide +kernel
theorem dX6_leftAt_22 : decode cX6_leftAt 22 = .ok (.ldc 151, 2) := by decide +kernel
theorem dX6_leftAt_24 : decode cX6_leftAt 24 = .ok (.invokespecial 126, 3) := by decide +kernel
theorem dX6_leftAt_27 : decode cX6_leftAt 27 = .ok (.athrow, 1) := by decide +kernel
theorem dX6_leftAt_28 : decode cX6_leftAt 28 = .ok (.aload_n 2, 1) := by decide +kernel
theorem dX6_leftAt_29 : decode cX6_leftAt 29 = .ok (.getfield 153, 3) := by decide +kernel
theorem dX6_leftAt_32 : decode cX6_leftAt 32 = .ok (.ireturn, 1) := by decide +kernel
set_option maxRecDepth 20000 in
theorem ggX6_leftBehind_X0_unitsLeftBehind : GoodIn wsX6_leftBehind wsX0_unitsLeftBehind := goodIn_r _ [6, 7, 8, 9, 10, 11, 12, 13, 14, 15, 16, 17, 18, 19, 20, 21, 22, 23, 24, 25, 26, 27, 28, 29, 30, 31, 32, 33, 34, 35, 38, 39, 40, 41, 42, 43, 44, 45, 46, 47, 48, 49, 50, 51, 52, 53, 54, 55, 56, 57, 58, 59, 60, 61, 62, 63, 64, 65, 66, 67] (by decide +kernel) (by decide +kernel)
set_option maxRecDepth 20000 in
theorem gX6_leftBehind_X0_unitsLeftBehind : GoodIn wsX6_leftBehind (wsV RX6 156 RX0 yX0_unitsLeftBehind wsX0_unitsLeftBehind) := goodIn_app (goodIn_of _ (by decide +kernel)) ggX6_leftBehind_X0_unitsLeftBehind
theorem dX6_leftBehind_0 : decode cX6_leftBehind 0 = .ok (.aload_n 0, 1) := by decide +kernel
theorem dX6_leftBehind_1 : decode cX6_leftBehind 1 = .ok (.getfield 12, 3) := by decide +kernel
theorem dX6_leftBehind_4 : decode cX6_leftBehind 4 = .ok (.invokevirtual 156, 3) := by decide +kernel
theorem dX6_leftBehind_7 : decode cX6_leftBehind 7 = .ok (.ireturn, 1) := by decide +kernel
set_option maxRecDepth 20000 in
theorem ggX6_waited_X0_existingLorry : GoodIn wsX6_waited wsX0_existingLorry := goodIn_ca (goodIn_r _ [7, 8, 9, 10, 11, 12, 13, 14, 15, 16, 17, 18, 19, 20, 21, 22, 23, 24, 25, 26, 27, 28, 29, 30, 31, 32, 33, 34, 52, 53, 54, 55, 56, 57, 58, 59] (by decide +kernel) (by decide +kernel)) (goodIn_sub (fun _ h => List.mem_cons_of_mem _ (List.mem_append_right _ h)) (by decide +kernel))
set_option maxRecDepth 20000 in
theorem gX6_waited_X0_existingLorry : GoodIn wsX6_waited (wsV RX6 50 RX0 yX0_existingLorry wsX0_existingLorry) := goodIn_app (goodIn_of _ (by decide +kernel)) ggX6_waited_X0_existingLorry
theorem dX6_waited_0 : decode cX6_waited 0 = .ok (.aload_n 0, 1) := by decide +kernel
theorem dX6_waited_1 : decode cX6_waited 1 = .ok (.getfield 12, 3) := by decide +kernel
theorem dX6_waited_4 : decode cX6_waited 4 = .ok (.iload_n 1, 1) := by decide +kernel
theorem dX6_waited_5 : decode cX6_waited 5 = .ok (.invokevirtual 50, 3) := by decide +kernel
theorem dX6_waited_8 : decode cX6_waited 8 = .ok (.getfield 159, 3) := by decide +kernel
theorem dX6_waited_11 : decode cX6_waited 11 = .ok (.ireturn, 1) := by decide +kernel
set_option maxRecDepth 20000 in
theorem ggX6_ownMinutes_X0_existingLorry : GoodIn wsX6_ownMinutes wsX0_existingLorry := goodIn_ca (goodIn_r _ [7, 8, 9, 10, 11, 12, 13, 14, 15, 16, 17, 18, 19, 20, 21, 22, 23, 24, 25, 26, 27, 28, 29, 30, 31, 32, 33, 34, 52, 53, 54, 55, 56, 57, 58, 59] (by decide +kernel) (by decide +kernel)) (goodIn_sub (fun _ h => List.mem_cons_of_mem _ (List.mem_append_right _ h)) (by decide +kernel))
set_option maxRecDepth 20000 in
theorem gX6_ownMinutes_X0_existingLorry : GoodIn wsX6_ownMinutes (wsV RX6 50 RX0 yX0_existingLorry wsX0_existingLorry) := goodIn_app (goodIn_of _ (by decide +kernel)) ggX6_ownMinutes_X0_existingLorry
theorem dX6_ownMinutes_0 : decode cX6_ownMinutes 0 = .ok (.aload_n 0, 1) := by decide +kernel
theorem dX6_ownMinutes_1 : decode cX6_ownMinutes 1 = .ok (.getfield 12, 3) := by decide +kernel
theorem dX6_ownMinutes_4 : decode cX6_ownMinutes 4 = .ok (.iload_n 1, 1) := by decide +kernel
theorem dX6_ownMinutes_5 : decode cX6_ownMinutes 5 = .ok (.invokevirtual 50, 3) := by decide +kernel
theorem dX6_ownMinutes_8 : decode cX6_ownMinutes 8 = .ok (.getfield 162, 3) := by decide +kernel
theorem dX6_ownMinutes_11 : decode cX6_ownMinutes 11 = .ok (.ireturn, 1) := by decide +kernel
set_option maxRecDepth 20000 in
theorem ggX6_debtor_X0_existingLorry : GoodIn wsX6_debtor wsX0_existingLorry := goodIn_ca (goodIn_r _ [10, 11, 12, 13, 14, 15, 16, 17, 18, 19, 20, 21, 22, 23, 24, 25, 26, 27, 28, 29, 30, 31, 32, 33, 34, 35, 36, 37, 55, 56, 57, 58, 59, 60, 61, 62] (by decide +kernel) (by decide +kernel)) (goodIn_sub (fun _ h => List.mem_cons_of_mem _ (List.mem_append_right _ h)) (by decide +kernel))
set_option maxRecDepth 20000 in
theorem gX6_debtor_X0_existingLorry : GoodIn wsX6_debtor (wsV RX6 50 RX0 yX0_existingLorry wsX0_existingLorry) := goodIn_app (goodIn_of _ (by decide +kernel)) ggX6_debtor_X0_existingLorry
theorem dX6_debtor_0 : decode cX6_debtor 0 = .ok (.aload_n 0, 1) := by decide +kernel
theorem dX6_debtor_1 : decode cX6_debtor 1 = .ok (.getfield 12, 3) := by decide +kernel
theorem dX6_debtor_4 : decode cX6_debtor 4 = .ok (.iload_n 1, 1) := by decide +kernel
theorem dX6_debtor_5 : decode cX6_debtor 5 = .ok (.invokevirtual 50, 3) := by decide +kernel
theorem dX6_debtor_8 : decode cX6_debtor 8 = .ok (.astore_n 2, 1) := by decide +kernel
theorem dX6_debtor_9 : decode cX6_debtor 9 = .ok (.aload_n 2, 1) := by decide +kernel
theorem dX6_debtor_10 : decode cX6_debtor 10 = .ok (.getfield 165, 3) := by decide +kernel
theorem dX6_debtor_13 : decode cX6_debtor 13 = .ok (.ifCond .ne 13, 3) := by decide +kernel
theorem dX6_debtor_16 : decode cX6_debtor 16 = .ok (.new 122, 3) := by decide +kernel
theorem dX6_debtor_19 : decode cX6_debtor 19 = .ok (.dup, 1) := by decide +kernel
theorem dX6_debtor_20 : decode cX6_debtor 20 = .ok (.ldc 168, 2) := by decide +kernel
theorem dX6_debtor_22 : decode cX6_debtor 22 = .ok (.invokespecial 126, 3) := by decide +kernel
theorem dX6_debtor_25 : decode cX6_debtor 25 = .ok (.athrow, 1) := by decide +kernel
theorem dX6_debtor_26 : decode cX6_debtor 26 = .ok (.aload_n 2, 1) := by decide +kernel
theorem dX6_debtor_27 : decode cX6_debtor 27 = .ok (.getfield 170, 3) := by decide +kernel
theorem dX6_debtor_30 : decode cX6_debtor 30 = .ok (.ireturn, 1) := by decide +kernel
set_option maxRecDepth 20000 in
theorem ggX6_invoice_X6_requireDebtor : GoodIn wsX6_invoice wsX6_requireDebtor := goodIn_ca (goodIn_r _ [6, 1, 7, 8, 9, 10, 11, 12, 13, 14, 15, 16, 17, 18, 19, 20, 21, 22, 23, 24, 25, 26, 27, 28, 29, 30, 31, 32, 33, 34, 35, 36, 37, 38, 50, 51, 52, 53, 54, 55, 56, 57, 58, 59] (by decide +kernel) (by decide +kernel)) (goodIn_sub (fun _ h => List.mem_cons_of_mem _ (List.mem_append_left _ (List.mem_append_right _ h))) (by decide +kernel))
set_option maxRecDepth 20000 in
theorem gX6_invoice_X6_requireDebtor : GoodIn wsX6_invoice (wsV RX6 173 RX6 yX6_requireDebtor wsX6_requireDebtor) := goodIn_app (goodIn_of _ (by decide +kernel)) ggX6_invoice_X6_requireDebtor
set_option maxRecDepth 20000 in
theorem ggX6_invoice_X0_existingLorry : GoodIn wsX6_invoice wsX0_existingLorry := goodIn_ca (goodIn_r _ [11, 12, 13, 14, 15, 16, 17, 18, 19, 20, 21, 22, 23, 24, 25, 26, 27, 28, 29, 30, 31, 32, 33, 34, 35, 36, 37, 38, 52, 53, 54, 55, 56, 57, 58, 59] (by decide +kernel) (by decide +kernel)) (goodIn_sub (fun _ h => List.mem_cons_of_mem _ (List.mem_append_left _ (List.mem_append_right _ h))) (by decide +kernel))
set_option maxRecDepth 20000 in
theorem gX6_invoice_X0_existingLorry : GoodIn wsX6_invoice (wsV RX6 50 RX0 yX0_existingLorry wsX0_existingLorry) := goodIn_app (goodIn_of _ (by decide +kernel)) ggX6_invoice_X0_existingLorry
set_option maxRecDepth 20000 in
theorem ggX6_invoice_X3_centsFrom : GoodIn wsX6_invoice wsX3_centsFrom := goodIn_ca (goodIn_r _ [43, 44, 45, 46, 47, 42, 48, 49, 60, 61, 62, 63, 64, 65, 66, 67, 68, 69, 70, 71, 72, 73, 74] (by decide +kernel) (by decide +kernel)) (goodIn_sub (fun _ h => List.mem_cons_of_mem _ (List.mem_append_right _ h)) (by decide +kernel))
set_option maxRecDepth 20000 in
theorem gX6_invoice_X3_centsFrom : GoodIn wsX6_invoice (wsV RX6 176 RX3 yX3_centsFrom wsX3_centsFrom) := goodIn_app (goodIn_of _ (by decide +kernel)) ggX6_invoice_X3_centsFrom
theorem dX6_invoice_0 : decode cX6_invoice 0 = .ok (.aload_n 0, 1) := by decide +kernel
theorem dX6_invoice_1 : decode cX6_invoice 1 = .ok (.iload_n 1, 1) := by decide +kernel
theorem dX6_invoice_2 : decode cX6_invoice 2 = .ok (.invokevirtual 173, 3) := by decide +kernel
theorem dX6_invoice_5 : decode cX6_invoice 5 = .ok (.aload_n 0, 1) := by decide +kernel
theorem dX6_invoice_6 : decode cX6_invoice 6 = .ok (.getfield 12, 3) := by decide +kernel
theorem dX6_invoice_9 : decode cX6_invoice 9 = .ok (.iload_n 2, 1) := by decide +kernel
theorem dX6_invoice_10 : decode cX6_invoice 10 = .ok (.invokevirtual 50, 3) := by decide +kernel
theorem dX6_invoice_13 : decode cX6_invoice 13 = .ok (.iload_n 1, 1) := by decide +kernel
theorem dX6_invoice_14 : decode cX6_invoice 14 = .ok (.invokevirtual 176, 3) := by decide +kernel
theorem dX6_invoice_17 : decode cX6_invoice 17 = .ok (.ireturn, 1) := by decide +kernel
set_option maxRecDepth 20000 in
theorem ggX6_invoiceAnew_X6_requireDebtor : GoodIn wsX6_invoiceAnew wsX6_requireDebtor := goodIn_ca (goodIn_r _ [6, 1, 7, 8, 9, 10, 11, 12, 13, 14, 15, 16, 17, 18, 19, 20, 21, 22, 23, 24, 25, 26, 27, 28, 29, 30, 31, 32, 33, 34, 35, 36, 37, 38, 366, 367, 368, 369, 370, 371, 372, 373, 374, 375] (by decide +kernel) (by decide +kernel)) (goodIn_sub (fun _ h => List.mem_cons_of_mem _ (List.mem_append_left _ (List.mem_append_right _ h))) (by decide +kernel))
set_option maxRecDepth 20000 in
theorem gX6_invoiceAnew_X6_requireDebtor : GoodIn wsX6_invoiceAnew (wsV RX6 173 RX6 yX6_requireDebtor wsX6_requireDebtor) := goodIn_app (goodIn_of _ (by decide +kernel)) ggX6_invoiceAnew_X6_requireDebtor
set_option maxRecDepth 20000 in
theorem ggX6_invoiceAnew_X0_existingLorry : GoodIn wsX6_invoiceAnew wsX0_existingLorry := goodIn_ca (goodIn_r _ [11, 12, 13, 14, 15, 16, 17, 18, 19, 20, 21, 22, 23, 24, 25, 26, 27, 28, 29, 30, 31, 32, 33, 34, 35, 36, 37, 38, 368, 369, 370, 371, 372, 373, 374, 375] (by decide +kernel) (by decide +kernel)) (goodIn_sub (fun _ h => List.mem_cons_of_mem _ (List.mem_append_left _ (List.mem_append_right _ h))) (by decide +kernel))
set_option maxRecDepth 20000 in
theorem gX6_invoiceAnew_X0_existingLorry : GoodIn wsX6_invoiceAnew (wsV RX6 50 RX0 yX0_existingLorry wsX0_existingLorry) := goodIn_app (goodIn_of _ (by decide +kernel)) ggX6_invoiceAnew_X0_existingLorry
set_option maxRecDepth 20000 in
theorem ggX6_invoiceAnew_X6_dockAnew : GoodIn wsX6_invoiceAnew wsX6_dockAnew := goodIn_ca (goodIn_ca (goodIn_r _ [42, 43, 44, 10, 45, 46, 47, 48, 49, 50, 51, 52, 53, 19, 14, 54, 55, 56, 57, 58, 59, 60, 61, 38, 62, 63, 64, 65, 66, 67, 68, 69, 70, 71, 72, 17, 18, 20, 21, 73, 23, 24, 25, 26, 27, 28, 29, 30, 31, 32, 33, 34, 35, 36, 37, 74, 75, 76, 77, 78, 79, 80, 81, 82, 83, 84, 85, 86, 87, 88, 16, 89, 90, 91, 92, 93, 94, 95, 96, 97, 98, 99, 100, 101, 102, 103, 104, 105, 106, 107, 108, 109, 110, 111, 112, 113, 114, 115, 116, 117, 118, 119, 120, 121, 122, 123, 124, 125, 126, 127, 128, 129, 130, 131, 132, 133, 134, 135, 136, 137, 138, 139, 140, 141, 142, 143, 144, 145, 146, 147, 148, 149, 150, 151, 152, 153, 154, 155, 156, 157, 158, 159, 160, 161, 162, 8, 9, 11, 12, 13, 15, 22, 163, 164, 165, 166, 167, 168, 169, 170, 171, 172, 173, 174, 175, 176, 177, 178, 179, 180, 181, 182, 183, 184, 185, 186, 187, 188, 189, 190, 191, 192, 193, 194, 195, 196, 197, 198, 199, 200, 201, 202, 203, 204, 205, 206, 207, 208, 209, 210, 211, 212, 213, 214, 215, 216, 217, 218, 219, 220, 221, 222, 223, 224, 225, 226, 227, 228, 229, 230, 231, 232, 233, 234, 235, 236, 237, 238, 239, 240, 241, 242, 243, 244, 245, 246, 247, 248, 249, 250, 251, 252, 253, 254, 255, 256, 257, 258, 259, 260, 261, 262, 263, 264, 265, 266, 267, 268, 269, 270, 271, 272, 273, 274, 275, 276, 277, 278, 279, 280, 281, 282, 283, 284, 285, 286, 287, 288, 5, 289, 290, 291, 292, 293, 294, 295, 296, 297, 298, 299, 300, 301, 302, 303, 304, 305, 306, 307, 308, 309, 310, 311, 312, 313, 314, 315, 316, 317, 318, 319, 320, 321, 322, 323, 324, 325, 326, 327, 328, 329, 330, 331, 332, 333, 334, 335, 336, 337, 338, 339, 340, 341, 342, 343, 344, 345, 346, 347, 348, 349, 350, 351, 352, 353, 354, 355, 356, 357, 368, 369, 370, 371, 372, 366, 367, 373, 374, 375, 376, 377, 378, 379, 380, 381, 382, 383, 384, 385, 386, 387, 388, 389, 390, 391, 392, 393, 394, 395, 396, 397, 398, 399, 400, 401, 402, 403, 404, 405] (by decide +kernel) (by decide +kernel)) (goodIn_sub (fun _ h => List.mem_cons_of_mem _ (List.mem_append_left _ (List.mem_append_right _ h))) (by decide +kernel))) (goodIn_sub (fun _ h => List.mem_cons_of_mem _ (List.mem_append_right _ h)) (by decide +kernel))
set_option maxRecDepth 20000 in
theorem gX6_invoiceAnew_X6_dockAnew : GoodIn wsX6_invoiceAnew (wsV RX6 179 RX6 yX6_dockAnew wsX6_dockAnew) := goodIn_app (goodIn_of _ (by decide +kernel)) ggX6_invoiceAnew_X6_dockAnew
set_option maxRecDepth 20000 in
theorem ggX6_invoiceAnew_X3_centsFrom : GoodIn wsX6_invoiceAnew wsX3_centsFrom := goodIn_ca (goodIn_r _ [361, 102, 362, 363, 364, 87, 365, 98, 380, 381, 382, 383, 384, 385, 386, 387, 388, 389, 390, 391, 392, 393, 394] (by decide +kernel) (by decide +kernel)) (goodIn_sub (fun _ h => List.mem_cons_of_mem _ (List.mem_append_right _ h)) (by decide +kernel))
set_option maxRecDepth 20000 in
theorem gX6_invoiceAnew_X3_centsFrom : GoodIn wsX6_invoiceAnew (wsV RX6 176 RX3 yX3_centsFrom wsX3_centsFrom) := goodIn_app (goodIn_of _ (by decide +kernel)) ggX6_invoiceAnew_X3_centsFrom
theorem dX6_invoiceAnew_0 : decode cX6_invoiceAnew 0 = .ok (.aload_n 0, 1) := by decide +kernel
theorem dX6_invoiceAnew_1 : decode cX6_invoiceAnew 1 = .ok (.iload_n 1, 1) := by decide +kernel
theorem dX6_invoiceAnew_2 : decode cX6_invoiceAnew 2 = .ok (.invokevirtual 173, 3) := by decide +kernel
theorem dX6_invoiceAnew_5 : decode cX6_invoiceAnew 5 = .ok (.aload_n 0, 1) := by decide +kernel
theorem dX6_invoiceAnew_6 : decode cX6_invoiceAnew 6 = .ok (.getfield 12, 3) := by decide +kernel
theorem dX6_invoiceAnew_9 : decode cX6_invoiceAnew 9 = .ok (.iload_n 2, 1) := by decide +kernel
theorem dX6_invoiceAnew_10 : decode cX6_invoiceAnew 10 = .ok (.invokevirtual 50, 3) := by decide +kernel
theorem dX6_invoiceAnew_13 : decode cX6_invoiceAnew 13 = .ok (.pop, 1) := by decide +kernel
theorem dX6_invoiceAnew_14 : decode cX6_invoiceAnew 14 = .ok (.aload_n 0, 1) := by decide +kernel
theorem dX6_invoiceAnew_15 : decode cX6_invoiceAnew 15 = .ok (.invokevirtual 179, 3) := by decide +kernel
theorem dX6_invoiceAnew_18 : decode cX6_invoiceAnew 18 = .ok (.iload_n 2, 1) := by decide +kernel
theorem dX6_invoiceAnew_19 : decode cX6_invoiceAnew 19 = .ok (.invokevirtual 50, 3) := by decide +kernel
theorem dX6_invoiceAnew_22 : decode cX6_invoiceAnew 22 = .ok (.iload_n 1, 1) := by decide +kernel
theorem dX6_invoiceAnew_23 : decode cX6_invoiceAnew 23 = .ok (.invokevirtual 176, 3) := by decide +kernel
theorem dX6_invoiceAnew_26 : decode cX6_invoiceAnew 26 = .ok (.ireturn, 1) := by decide +kernel
set_option maxRecDepth 20000 in
theorem ggX6_balance_X6_requireDebtor : GoodIn wsX6_balance wsX6_requireDebtor := goodIn_ca (goodIn_r _ [6, 1, 7, 8, 9, 10, 11, 12, 13, 14, 15, 16, 17, 18, 19, 20, 21, 22, 23, 24, 25, 26, 27, 28, 29, 30, 31, 32, 33, 34, 35, 36, 37, 38, 58, 59, 60, 61, 62, 63, 64, 65, 66, 67] (by decide +kernel) (by decide +kernel)) (goodIn_sub (fun _ h => List.mem_cons_of_mem _ (List.mem_append_left _ (List.mem_append_right _ h))) (by decide +kernel))
set_option maxRecDepth 20000 in
theorem gX6_balance_X6_requireDebtor : GoodIn wsX6_balance (wsV RX6 173 RX6 yX6_requireDebtor wsX6_requireDebtor) := goodIn_app (goodIn_of _ (by decide +kernel)) ggX6_balance_X6_requireDebtor
set_option maxRecDepth 20000 in
theorem ggX6_balance_X0_balanceOf : GoodIn wsX6_balance wsX0_balanceOf := goodIn_ca (goodIn_r _ [42, 14, 15, 16, 17, 18, 19, 20, 21, 22, 23, 24, 25, 26, 27, 28, 29, 30, 31, 32, 33, 34, 35, 36, 37, 38, 43, 44, 45, 46, 47, 48, 49, 50, 51, 52, 53, 54, 55, 56, 10, 57, 60, 61, 62, 63, 64, 65, 66, 67, 68, 69, 70, 71, 72, 73, 74, 75, 76, 77, 78, 79, 80, 81, 82] (by decide +kernel) (by decide +kernel)) (goodIn_sub (fun _ h => List.mem_cons_of_mem _ (List.mem_append_right _ h)) (by decide +kernel))
set_option maxRecDepth 20000 in
theorem gX6_balance_X0_balanceOf : GoodIn wsX6_balance (wsV RX6 183 RX0 yX0_balanceOf wsX0_balanceOf) := goodIn_app (goodIn_of _ (by decide +kernel)) ggX6_balance_X0_balanceOf
theorem dX6_balance_0 : decode cX6_balance 0 = .ok (.aload_n 0, 1) := by decide +kernel
theorem dX6_balance_1 : decode cX6_balance 1 = .ok (.iload_n 1, 1) := by decide +kernel
theorem dX6_balance_2 : decode cX6_balance 2 = .ok (.invokevirtual 173, 3) := by decide +kernel
theorem dX6_balance_5 : decode cX6_balance 5 = .ok (.aload_n 0, 1) := by decide +kernel
theorem dX6_balance_6 : decode cX6_balance 6 = .ok (.getfield 12, 3) := by decide +kernel
theorem dX6_balance_9 : decode cX6_balance 9 = .ok (.iload_n 1, 1) := by decide +kernel
theorem dX6_balance_10 : decode cX6_balance 10 = .ok (.invokevirtual 183, 3) := by decide +kernel
theorem dX6_balance_13 : decode cX6_balance 13 = .ok (.lreturn, 1) := by decide +kernel
set_option maxRecDepth 20000 in
theorem ggX6_meanWait_Jx4a65c_size_8abf5 : GoodIn wsX6_meanWait wsJx4a65c_size_8abf5 := goodIn_r _ [9, 10, 44, 45, 46] (by decide +kernel) (by decide +kernel)
set_option maxRecDepth 20000 in
theorem gX6_meanWait_Jx4a65c_size_8abf5 : GoodIn wsX6_meanWait (wsV RX6 37 RJx4a65c yJx4a65c_size_8abf5 wsJx4a65c_size_8abf5) := goodIn_app (goodIn_of _ (by decide +kernel)) ggX6_meanWait_Jx4a65c_size_8abf5
set_option maxRecDepth 20000 in
theorem ggX6_meanWait_X0_minutesWaited : GoodIn wsX6_meanWait wsX0_minutesWaited := goodIn_r _ [15, 16, 17, 18, 19, 6, 7, 8, 9, 10, 20, 21, 22, 23, 24, 25, 26, 27, 28, 29, 30, 31, 32, 33, 34, 35, 36, 39, 40, 41, 42, 43, 47, 48, 49, 50, 51, 52, 53, 54, 55, 56, 57, 58, 59, 60, 61, 44, 45, 46] (by decide +kernel) (by decide +kernel)
set_option maxRecDepth 20000 in
theorem gX6_meanWait_X0_minutesWaited : GoodIn wsX6_meanWait (wsV RX6 192 RX0 yX0_minutesWaited wsX0_minutesWaited) := goodIn_app (goodIn_of _ (by decide +kernel)) ggX6_meanWait_X0_minutesWaited
theorem dX6_meanWait_0 : decode cX6_meanWait 0 = .ok (.aload_n 0, 1) := by decide +kernel
theorem dX6_meanWait_1 : decode cX6_meanWait 1 = .ok (.getfield 12, 3) := by decide +kernel
theorem dX6_meanWait_4 : decode cX6_meanWait 4 = .ok (.getfield 34, 3) := by decide +kernel
theorem dX6_meanWait_7 : decode cX6_meanWait 7 = .ok (.invokevirtual 37, 3) := by decide +kernel
theorem dX6_meanWait_10 : decode cX6_meanWait 10 = .ok (.istore_n 1, 1) := by decide +kernel
theorem dX6_meanWait_11 : decode cX6_meanWait 11 = .ok (.iload_n 1, 1) := by decide +kernel
theorem dX6_meanWait_12 : decode cX6_meanWait 12 = .ok (.ifCond .ne 13, 3) := by decide +kernel
theorem dX6_meanWait_15 : decode cX6_meanWait 15 = .ok (.new 187, 3) := by decide +kernel
theorem dX6_meanWait_18 : decode cX6_meanWait 18 = .ok (.dup, 1) := by decide +kernel
theorem dX6_meanWait_19 : decode cX6_meanWait 19 = .ok (.ldc 189, 2) := by decide +kernel
theorem dX6_meanWait_21 : decode cX6_meanWait 21 = .ok (.invokespecial 191, 3) := by decide +kernel
theorem dX6_meanWait_24 : decode cX6_meanWait 24 = .ok (.athrow, 1) := by decide +kernel
theorem dX6_meanWait_25 : decode cX6_meanWait 25 = .ok (.aload_n 0, 1) := by decide +kernel
theorem dX6_meanWait_26 : decode cX6_meanWait 26 = .ok (.getfield 12, 3) := by decide +kernel
theorem dX6_meanWait_29 : decode cX6_meanWait 29 = .ok (.invokevirtual 192, 3) := by decide +kernel
theorem dX6_meanWait_32 : decode cX6_meanWait 32 = .ok (.i2d, 1) := by decide +kernel
theorem dX6_meanWait_33 : decode cX6_meanWait 33 = .ok (.iload_n 1, 1) := by decide +kernel
theorem dX6_meanWait_34 : decode cX6_meanWait 34 = .ok (.i2d, 1) := by decide +kernel
theorem dX6_meanWait_35 : decode cX6_meanWait 35 = .ok (.ddiv, 1) := by decide +kernel
theorem dX6_meanWait_36 : decode cX6_meanWait 36 = .ok (.dreturn, 1) := by decide +kernel
set_option maxRecDepth 20000 in
theorem ggX6_dockShare_X0_minutesWaited : GoodIn wsX6_dockShare wsX0_minutesWaited := goodIn_r _ [8, 9, 10, 11, 12, 13, 14, 15, 16, 17, 18, 19, 20, 21, 22, 23, 24, 25, 26, 27, 28, 29, 30, 31, 32, 33, 34, 47, 48, 49, 50, 51, 52, 53, 54, 55, 56, 57, 58, 59, 60, 61, 62, 63, 64, 65, 66, 67, 68, 69] (by decide +kernel) (by decide +kernel)
set_option maxRecDepth 20000 in
theorem gX6_dockShare_X0_minutesWaited : GoodIn wsX6_dockShare (wsV RX6 192 RX0 yX0_minutesWaited wsX0_minutesWaited) := goodIn_app (goodIn_of _ (by decide +kernel)) ggX6_dockShare_X0_minutesWaited
set_option maxRecDepth 20000 in
theorem ggX6_dockShare_X0_minutesOfTheDock : GoodIn wsX6_dockShare wsX0_minutesOfTheDock := goodIn_ca (goodIn_r _ [38, 9, 10, 12, 13, 14, 15, 16, 17, 18, 19, 20, 21, 22, 23, 24, 25, 26, 27, 28, 29, 30, 31, 32, 33, 34, 39, 40, 41, 42, 43, 44, 47, 48, 49, 50, 51, 67, 68, 69, 52, 53, 54, 55, 56, 57, 58, 59, 60, 61, 62, 63, 64, 65, 66] (by decide +kernel) (by decide +kernel)) (goodIn_sub (fun _ h => List.mem_cons_of_mem _ (List.mem_append_right _ h)) (by decide +kernel))
set_option maxRecDepth 20000 in
theorem gX6_dockShare_X0_minutesOfTheDock : GoodIn wsX6_dockShare (wsV RX6 197 RX0 yX0_minutesOfTheDock wsX0_minutesOfTheDock) := goodIn_app (goodIn_of _ (by decide +kernel)) ggX6_dockShare_X0_minutesOfTheDock
theorem dX6_dockShare_0 : decode cX6_dockShare 0 = .ok (.aload_n 0, 1) := by decide +kernel
theorem dX6_dockShare_1 : decode cX6_dockShare 1 = .ok (.getfield 12, 3) := by decide +kernel
theorem dX6_dockShare_4 : decode cX6_dockShare 4 = .ok (.invokevirtual 192, 3) := by decide +kernel
theorem dX6_dockShare_7 : decode cX6_dockShare 7 = .ok (.istore_n 1, 1) := by decide +kernel
theorem dX6_dockShare_8 : decode cX6_dockShare 8 = .ok (.iload_n 1, 1) := by decide +kernel
theorem dX6_dockShare_9 : decode cX6_dockShare 9 = .ok (.ifCond .ne 13, 3) := by decide +kernel
theorem dX6_dockShare_12 : decode cX6_dockShare 12 = .ok (.new 187, 3) := by decide +kernel
theorem dX6_dockShare_15 : decode cX6_dockShare 15 = .ok (.dup, 1) := by decide +kernel
theorem dX6_dockShare_16 : decode cX6_dockShare 16 = .ok (.ldc 195, 2) := by decide +kernel
theorem dX6_dockShare_18 : decode cX6_dockShare 18 = .ok (.invokespecial 191, 3) := by decide +kernel
theorem dX6_dockShare_21 : decode cX6_dockShare 21 = .ok (.athrow, 1) := by decide +kernel
theorem dX6_dockShare_22 : decode cX6_dockShare 22 = .ok (.aload_n 0, 1) := by decide +kernel
theorem dX6_dockShare_23 : decode cX6_dockShare 23 = .ok (.getfield 12, 3) := by decide +kernel
theorem dX6_dockShare_26 : decode cX6_dockShare 26 = .ok (.invokevirtual 197, 3) := by decide +kernel
theorem dX6_dockShare_29 : decode cX6_dockShare 29 = .ok (.i2f, 1) := by decide +kernel
theorem dX6_dockShare_30 : decode cX6_dockShare 30 = .ok (.iload_n 1, 1) := by decide +kernel
theorem dX6_dockShare_31 : decode cX6_dockShare 31 = .ok (.i2f, 1) := by decide +kernel
theorem dX6_dockShare_32 : decode cX6_dockShare 32 = .ok (.fdiv, 1) := by decide +kernel
theorem dX6_dockShare_33 : decode cX6_dockShare 33 = .ok (.freturn, 1) := by decide +kernel
set_option maxRecDepth 20000 in
theorem ggX6_ways_X0_waysOfTransfers : GoodIn wsX6_ways wsX0_waysOfTransfers := goodIn_r _ [6, 7, 8, 9, 10, 11, 12, 13, 14, 15, 16, 17, 18, 19, 20, 21, 22, 23, 24, 25, 26, 27, 28, 29, 30, 31, 32, 33, 34, 35, 36, 37, 38, 39, 40, 41, 42, 43, 46, 47, 48, 49, 50, 51, 52, 53, 54, 55, 56, 57, 58, 59, 60, 61, 62, 63, 64, 65, 66, 67, 68, 69, 70, 71, 72, 73, 74, 75] (by decide +kernel) (by decide +kernel)
set_option maxRecDepth 20000 in
theorem gX6_ways_X0_waysOfTransfers : GoodIn wsX6_ways (wsV RX6 200 RX0 yX0_waysOfTransfers wsX0_waysOfTransfers) := goodIn_app (goodIn_of _ (by decide +kernel)) ggX6_ways_X0_waysOfTransfers
theorem dX6_ways_0 : decode cX6_ways 0 = .ok (.aload_n 0, 1) := by decide +kernel
theorem dX6_ways_1 : decode cX6_ways 1 = .ok (.getfield 12, 3) := by decide +kernel
theorem dX6_ways_4 : decode cX6_ways 4 = .ok (.invokevirtual 200, 3) := by decide +kernel
theorem dX6_ways_7 : decode cX6_ways 7 = .ok (.ireturn, 1) := by decide +kernel
set_option maxRecDepth 20000 in
theorem ggX6_leastWays_X4_init : GoodIn wsX6_leastWays wsX4_init := goodIn_ca (goodIn_r _ [8, 9, 10, 11, 12, 13, 14, 15, 16, 17, 18, 19, 20, 21, 22, 23, 24, 25, 26, 27, 28, 29, 30, 31, 32, 33, 34, 35, 36, 37, 38, 39, 40, 41, 42, 43, 44, 45, 46, 47, 48, 49, 50, 51, 52, 53, 54, 55, 56, 57, 58, 59, 78, 79, 80, 81, 82, 83, 86, 87, 88, 89, 90, 91, 92, 93, 94, 95, 96, 97, 98, 99, 100, 101, 102, 103, 104, 105, 106, 107, 108, 109, 110, 111, 112, 113, 114, 115] (by decide +kernel) (by decide +kernel)) (goodIn_sub (fun _ h => List.mem_cons_of_mem _ (List.mem_append_right _ h)) (by decide +kernel))
set_option maxRecDepth 20000 in
theorem gX6_leastWays_X4_init : GoodIn wsX6_leastWays (wsX4_init) := ggX6_leastWays_X4_init
set_option maxRecDepth 20000 in
theorem ggX6_leastWays_X4_search : GoodIn wsX6_leastWays wsX4_search := goodIn_ca (goodIn_r _ [61, 18, 24, 15, 62, 63, 64, 3, 65, 16, 66, 67, 68, 69, 13, 70, 71, 72, 73, 17, 74, 75, 76, 77, 60, 78, 79, 80, 81, 82, 83] (by decide +kernel) (by decide +kernel)) (goodIn_sub (fun _ h => List.mem_cons_of_mem _ (List.mem_append_right _ h)) (by decide +kernel))
set_option maxRecDepth 20000 in
theorem gX6_leastWays_X4_search_n208 : GoodIn wsX6_leastWays (wsX4_search) := ggX6_leastWays_X4_search
theorem dX6_leastWays_0 : decode cX6_leastWays 0 = .ok (.new 203, 3) := by decide +kernel
theorem dX6_leastWays_3 : decode cX6_leastWays 3 = .ok (.dup, 1) := by decide +kernel
theorem dX6_leastWays_4 : decode cX6_leastWays 4 = .ok (.aload_n 0, 1) := by decide +kernel
theorem dX6_leastWays_5 : decode cX6_leastWays 5 = .ok (.getfield 12, 3) := by decide +kernel
theorem dX6_leastWays_8 : decode cX6_leastWays 8 = .ok (.invokespecial 205, 3) := by decide +kernel
theorem dX6_leastWays_11 : decode cX6_leastWays 11 = .ok (.astore_n 1, 1) := by decide +kernel
theorem dX6_leastWays_12 : decode cX6_leastWays 12 = .ok (.aload_n 1, 1) := by decide +kernel
theorem dX6_leastWays_13 : decode cX6_leastWays 13 = .ok (.iconst 0, 1) := by decide +kernel
theorem dX6_leastWays_14 : decode cX6_leastWays 14 = .ok (.iconst 0, 1) := by decide +kernel
theorem dX6_leastWays_15 : decode cX6_leastWays 15 = .ok (.invokestatic 208, 3) := by decide +kernel
theorem dX6_leastWays_18 : decode cX6_leastWays 18 = .ok (.aload_n 1, 1) := by decide +kernel
theorem dX6_leastWays_19 : decode cX6_leastWays 19 = .ok (.getfield 212, 3) := by decide +kernel
theorem dX6_leastWays_22 : decode cX6_leastWays 22 = .ok (.ireturn, 1) := by decide +kernel
set_option maxRecDepth 20000 in
theorem ggX6_bestDoor_X0_existingLorry : GoodIn wsX6_bestDoor wsX0_existingLorry := goodIn_ca (goodIn_r _ [12, 13, 14, 15, 16, 17, 18, 19, 20, 21, 22, 23, 24, 25, 26, 27, 28, 29, 30, 31, 32, 33, 34, 35, 36, 37, 38, 39, 118, 119, 120, 121, 122, 123, 124, 125] (by decide +kernel) (by decide +kernel)) (goodIn_sub (fun _ h => List.mem_cons_of_mem _ (List.mem_append_left _ (List.mem_append_right _ h))) (by decide +kernel))
set_option maxRecDepth 20000 in
theorem gX6_bestDoor_X0_existingLorry : GoodIn wsX6_bestDoor (wsV RX6 50 RX0 yX0_existingLorry wsX0_existingLorry) := goodIn_app (goodIn_of _ (by decide +kernel)) ggX6_bestDoor_X0_existingLorry
set_option maxRecDepth 20000 in
theorem ggX6_bestDoor_X4_init : GoodIn wsX6_bestDoor wsX4_init := goodIn_ca (goodIn_r _ [42, 43, 44, 45, 46, 47, 48, 49, 50, 51, 52, 53, 54, 55, 56, 57, 58, 59, 60, 61, 62, 63, 64, 65, 66, 67, 68, 69, 70, 71, 18, 19, 20, 21, 22, 72, 24, 25, 26, 27, 28, 29, 30, 31, 32, 33, 34, 35, 36, 37, 38, 39, 112, 113, 114, 115, 116, 117, 118, 119, 120, 121, 122, 97, 98, 99, 100, 101, 102, 103, 104, 105, 106, 107, 108, 109, 110, 111, 126, 127, 128, 129, 130, 131, 132, 123, 124, 125] (by decide +kernel) (by decide +kernel)) (goodIn_sub (fun _ h => List.mem_cons_of_mem _ (List.mem_append_right _ h)) (by decide +kernel))
set_option maxRecDepth 20000 in
theorem gX6_bestDoor_X4_init : GoodIn wsX6_bestDoor (wsX4_init) := ggX6_bestDoor_X4_init
set_option maxRecDepth 20000 in
theorem ggX6_bestDoor_X4_search : GoodIn wsX6_bestDoor wsX4_search := goodIn_ca (goodIn_r _ [74, 52, 58, 49, 75, 76, 77, 7, 78, 50, 79, 80, 81, 82, 47, 83, 84, 85, 86, 51, 87, 88, 89, 90, 73, 112, 113, 114, 115, 116, 117] (by decide +kernel) (by decide +kernel)) (goodIn_sub (fun _ h => List.mem_cons_of_mem _ (List.mem_append_right _ h)) (by decide +kernel))
set_option maxRecDepth 20000 in
theorem gX6_bestDoor_X4_search_n208 : GoodIn wsX6_bestDoor (wsX4_search) := ggX6_bestDoor_X4_search
set_option maxRecDepth 20000 in
theorem ggX6_bestDoor_X4_bestDoorOf : GoodIn wsX6_bestDoor wsX4_bestDoorOf := goodIn_ca (goodIn_r _ [94, 50, 112, 113, 114, 115, 116, 117] (by decide +kernel) (by decide +kernel)) (goodIn_sub (fun _ h => List.mem_cons_of_mem _ (List.mem_append_right _ h)) (by decide +kernel))
set_option maxRecDepth 20000 in
theorem gX6_bestDoor_X4_bestDoorOf : GoodIn wsX6_bestDoor (wsV RX6 215 RX4 yX4_bestDoorOf wsX4_bestDoorOf) := goodIn_app (goodIn_of _ (by decide +kernel)) ggX6_bestDoor_X4_bestDoorOf
theorem dX6_bestDoor_0 : decode cX6_bestDoor 0 = .ok (.aload_n 0, 1) := by decide +kernel
theorem dX6_bestDoor_1 : decode cX6_bestDoor 1 = .ok (.getfield 12, 3) := by decide +kernel
theorem dX6_bestDoor_4 : decode cX6_bestDoor 4 = .ok (.iload_n 1, 1) := by decide +kernel
theorem dX6_bestDoor_5 : decode cX6_bestDoor 5 = .ok (.invokevirtual 50, 3) := by decide +kernel
theorem dX6_bestDoor_8 : decode cX6_bestDoor 8 = .ok (.getfield 77, 3) := by decide +kernel
theorem dX6_bestDoor_11 : decode cX6_bestDoor 11 = .ok (.bipush 101, 2) := by decide +kernel
theorem dX6_bestDoor_13 : decode cX6_bestDoor 13 = .ok (.if_icmp .eq 13, 3) := by decide +kernel
theorem dX6_bestDoor_16 : decode cX6_bestDoor 16 = .ok (.new 41, 3) := by decide +kernel
theorem dX6_bestDoor_19 : decode cX6_bestDoor 19 = .ok (.dup, 1) := by decide +kernel
theorem dX6_bestDoor_20 : decode cX6_bestDoor 20 = .ok (.ldc 81, 2) := by decide +kernel
theorem dX6_bestDoor_22 : decode cX6_bestDoor 22 = .ok (.invokespecial 45, 3) := by decide +kernel
theorem dX6_bestDoor_25 : decode cX6_bestDoor 25 = .ok (.athrow, 1) := by decide +kernel
theorem dX6_bestDoor_26 : decode cX6_bestDoor 26 = .ok (.new 203, 3) := by decide +kernel
theorem dX6_bestDoor_29 : decode cX6_bestDoor 29 = .ok (.dup, 1) := by decide +kernel
theorem dX6_bestDoor_30 : decode cX6_bestDoor 30 = .ok (.aload_n 0, 1) := by decide +kernel
theorem dX6_bestDoor_31 : decode cX6_bestDoor 31 = .ok (.getfield 12, 3) := by decide +kernel
theorem dX6_bestDoor_34 : decode cX6_bestDoor 34 = .ok (.invokespecial 205, 3) := by decide +kernel
theorem dX6_bestDoor_37 : decode cX6_bestDoor 37 = .ok (.astore_n 2, 1) := by decide +kernel
theorem dX6_bestDoor_38 : decode cX6_bestDoor 38 = .ok (.aload_n 2, 1) := by decide +kernel
theorem dX6_bestDoor_39 : decode cX6_bestDoor 39 = .ok (.iconst 0, 1) := by decide +kernel
theorem dX6_bestDoor_40 : decode cX6_bestDoor 40 = .ok (.iconst 0, 1) := by decide +kernel
theorem dX6_bestDoor_41 : decode cX6_bestDoor 41 = .ok (.invokestatic 208, 3) := by decide +kernel
theorem dX6_bestDoor_44 : decode cX6_bestDoor 44 = .ok (.aload_n 2, 1) := by decide +kernel
theorem dX6_bestDoor_45 : decode cX6_bestDoor 45 = .ok (.iload_n 1, 1) := by decide +kernel
theorem dX6_bestDoor_46 : decode cX6_bestDoor 46 = .ok (.invokevirtual 215, 3) := by decide +kernel
theorem dX6_bestDoor_49 : decode cX6_bestDoor 49 = .ok (.ireturn, 1) := by decide +kernel
set_option maxRecDepth 20000 in
theorem ggX6_isSound_X6_dockAnew : GoodIn wsX6_isSound wsX6_dockAnew := goodIn_ca (goodIn_ca (goodIn_r _ [10, 11, 12, 13, 14, 15, 16, 17, 18, 19, 20, 21, 22, 23, 24, 25, 26, 27, 28, 29, 30, 31, 32, 33, 34, 35, 36, 37, 38, 39, 40, 41, 42, 43, 44, 45, 46, 47, 48, 49, 50, 51, 52, 53, 54, 55, 56, 57, 58, 59, 60, 61, 62, 63, 64, 65, 66, 67, 68, 69, 70, 71, 72, 73, 74, 75, 76, 77, 78, 79, 80, 81, 82, 83, 84, 85, 86, 87, 88, 89, 90, 91, 92, 93, 94, 95, 96, 97, 98, 99, 100, 101, 102, 103, 104, 105, 106, 107, 108, 109, 110, 111, 112, 113, 114, 115, 116, 117, 118, 119, 120, 121, 122, 123, 124, 125, 126, 127, 128, 129, 130, 131, 132, 133, 134, 135, 136, 137, 138, 139, 140, 141, 142, 143, 144, 145, 146, 147, 148, 149, 150, 151, 152, 153, 154, 155, 156, 157, 158, 159, 160, 161, 162, 163, 164, 165, 166, 167, 168, 169, 170, 171, 172, 173, 174, 175, 176, 177, 178, 179, 180, 181, 182, 183, 184, 185, 186, 187, 188, 189, 190, 191, 192, 193, 194, 195, 196, 197, 198, 199, 200, 201, 202, 203, 204, 205, 206, 207, 208, 209, 210, 211, 212, 213, 214, 215, 216, 217, 218, 219, 220, 221, 222, 223, 224, 225, 226, 227, 228, 229, 230, 231, 232, 233, 234, 235, 236, 237, 238, 239, 240, 241, 242, 243, 244, 245, 246, 247, 248, 249, 250, 251, 252, 253, 254, 255, 256, 257, 258, 259, 260, 261, 262, 263, 264, 265, 266, 267, 268, 269, 270, 271, 272, 273, 274, 275, 276, 277, 278, 279, 280, 281, 282, 283, 284, 285, 286, 287, 9, 288, 289, 290, 291, 292, 293, 294, 295, 296, 297, 298, 299, 300, 301, 302, 303, 304, 305, 306, 307, 308, 309, 310, 311, 312, 313, 314, 315, 316, 317, 318, 319, 320, 321, 322, 323, 324, 325, 326, 327, 328, 329, 330, 331, 332, 333, 334, 335, 336, 337, 338, 339, 340, 341, 342, 343, 344, 345, 346, 347, 348, 349, 350, 351, 352, 353, 354, 355, 356, 385, 386, 387, 388, 389, 383, 384, 405, 406, 407, 408, 409, 410, 411, 390, 391, 392, 393, 394, 395, 396, 397, 398, 399, 400, 401, 402, 403, 404, 412, 413, 414, 415, 416, 417, 418, 419, 420, 421, 422] (by decide +kernel) (by decide +kernel)) (goodIn_sub (fun _ h => List.mem_cons_of_mem _ (List.mem_append_left _ (List.mem_append_right _ h))) (by decide +kernel))) (goodIn_sub (fun _ h => List.mem_cons_of_mem _ (List.mem_append_right _ h)) (by decide +kernel))
set_option maxRecDepth 20000 in
theorem gX6_isSound_X6_dockAnew : GoodIn wsX6_isSound (wsV RX6 179 RX6 yX6_dockAnew wsX6_dockAnew) := goodIn_app (goodIn_of _ (by decide +kernel)) ggX6_isSound_X6_dockAnew
set_option maxRecDepth 20000 in
theorem ggX6_isSound_X0_balanceOf : GoodIn wsX6_isSound wsX0_balanceOf := goodIn_ca (goodIn_r _ [360, 24, 160, 80, 45, 46, 23, 47, 48, 161, 50, 51, 52, 53, 54, 55, 56, 57, 58, 59, 60, 61, 62, 63, 64, 33, 361, 362, 363, 78, 364, 94, 365, 366, 367, 368, 90, 369, 370, 371, 13, 372, 385, 386, 387, 388, 389, 405, 406, 407, 390, 391, 392, 393, 394, 395, 396, 397, 398, 399, 400, 401, 402, 403, 404] (by decide +kernel) (by decide +kernel)) (goodIn_sub (fun _ h => List.mem_cons_of_mem _ (List.mem_append_right _ h)) (by decide +kernel))
set_option maxRecDepth 20000 in
theorem gX6_isSound_X0_balanceOf : GoodIn wsX6_isSound (wsV RX6 183 RX0 yX0_balanceOf wsX0_balanceOf) := goodIn_app (goodIn_of _ (by decide +kernel)) ggX6_isSound_X0_balanceOf
set_option maxRecDepth 20000 in
theorem ggX6_isSound_Jx4a65c_size_8abf5 : GoodIn wsX6_isSound wsJx4a65c_size_8abf5 := goodIn_r _ [47, 48, 405, 406, 407] (by decide +kernel) (by decide +kernel)
set_option maxRecDepth 20000 in
theorem gX6_isSound_Jx4a65c_size_8abf5 : GoodIn wsX6_isSound (wsV RX6 37 RJx4a65c yJx4a65c_size_8abf5 wsJx4a65c_size_8abf5) := goodIn_app (goodIn_of _ (by decide +kernel)) ggX6_isSound_Jx4a65c_size_8abf5
set_option maxRecDepth 20000 in
theorem ggX6_isSound_Jx4a65c_get_915e3 : GoodIn wsX6_isSound wsJx4a65c_get_915e3 := goodIn_r _ [52, 48, 53, 54, 55, 56, 57, 58, 59, 60, 61, 62, 63, 23, 64, 33, 405, 406, 407] (by decide +kernel) (by decide +kernel)
set_option maxRecDepth 20000 in
theorem gX6_isSound_Jx4a65c_get_915e3 : GoodIn wsX6_isSound (wsV RX6 218 RJx4a65c yJx4a65c_get_915e3 wsJx4a65c_get_915e3) := goodIn_app (goodIn_of _ (by decide +kernel)) ggX6_isSound_Jx4a65c_get_915e3
set_option maxRecDepth 20000 in
theorem ggX6_isSound_X3_owedMinutes : GoodIn wsX6_isSound wsX3_owedMinutes := goodIn_ca (goodIn_r _ [376, 90, 390, 391, 392, 393, 394, 395, 396, 397, 398, 399, 400, 401, 402, 403, 404] (by decide +kernel) (by decide +kernel)) (goodIn_sub (fun _ h => List.mem_cons_of_mem _ (List.mem_append_right _ h)) (by decide +kernel))
set_option maxRecDepth 20000 in
theorem gX6_isSound_X3_owedMinutes : GoodIn wsX6_isSound (wsV RX6 222 RX3 yX3_owedMinutes wsX3_owedMinutes) := goodIn_app (goodIn_of _ (by decide +kernel)) ggX6_isSound_X3_owedMinutes
set_option maxRecDepth 20000 in
theorem ggX6_isSound_X6_isInvoicedAlike : GoodIn wsX6_isSound wsX6_isInvoicedAlike := goodIn_ca (goodIn_r _ [380, 381, 2, 3, 1, 44, 45, 46, 23, 47, 48, 49, 50, 51, 52, 53, 54, 55, 56, 57, 58, 59, 60, 61, 62, 63, 64, 33, 382, 362, 363, 78, 364, 94, 365, 366, 367, 368, 90, 390, 391, 392, 393, 394, 395, 396, 397, 398, 399, 400, 401, 402, 403, 404, 385, 386, 387, 388, 389, 383, 384, 405, 406, 407] (by decide +kernel) (by decide +kernel)) (goodIn_sub (fun _ h => List.mem_cons_of_mem _ (List.mem_append_right _ h)) (by decide +kernel))
set_option maxRecDepth 20000 in
theorem gX6_isSound_X6_isInvoicedAlike : GoodIn wsX6_isSound (wsV RX6 225 RX6 yX6_isInvoicedAlike wsX6_isInvoicedAlike) := goodIn_app (goodIn_of _ (by decide +kernel)) ggX6_isSound_X6_isInvoicedAlike
theorem dX6_isSound_0 : decode cX6_isSound 0 = .ok (.aload_n 0, 1) := by decide +kernel
theorem dX6_isSound_1 : decode cX6_isSound 1 = .ok (.invokevirtual 179, 3) := by decide +kernel
theorem dX6_isSound_4 : decode cX6_isSound 4 = .ok (.astore_n 1, 1) := by decide +kernel
theorem dX6_isSound_5 : decode cX6_isSound 5 = .ok (.aload_n 0, 1) := by decide +kernel
theorem dX6_isSound_6 : decode cX6_isSound 6 = .ok (.getfield 12, 3) := by decide +kernel
theorem dX6_isSound_9 : decode cX6_isSound 9 = .ok (.iconst (-1), 1) := by decide +kernel
theorem dX6_isSound_10 : decode cX6_isSound 10 = .ok (.invokevirtual 183, 3) := by decide +kernel
theorem dX6_isSound_13 : decode cX6_isSound 13 = .ok (.lstore_n 2, 1) := by decide +kernel
theorem dX6_isSound_14 : decode cX6_isSound 14 = .ok (.iconst 0, 1) := by decide +kernel
theorem dX6_isSound_15 : decode cX6_isSound 15 = .ok (.istore 4, 2) := by decide +kernel
theorem dX6_isSound_17 : decode cX6_isSound 17 = .ok (.iload 4, 2) := by decide +kernel
theorem dX6_isSound_19 : decode cX6_isSound 19 = .ok (.aload_n 0, 1) := by decide +kernel
theorem dX6_isSound_20 : decode cX6_isSound 20 = .ok (.getfield 12, 3) := by decide +kernel
theorem dX6_isSound_23 : decode cX6_isSound 23 = .ok (.getfield 34, 3) := by decide +kernel
theorem dX6_isSound_26 : decode cX6_isSound 26 = .ok (.invokevirtual 37, 3) := by decide +kernel
theorem dX6_isSound_29 : decode cX6_isSound 29 = .ok (.if_icmp .ge 69, 3) := by decide +kernel
theorem dX6_isSound_32 : decode cX6_isSound 32 = .ok (.aload_n 0, 1) := by decide +kernel
theorem dX6_isSound_33 : decode cX6_isSound 33 = .ok (.getfield 12, 3) := by decide +kernel
theorem dX6_isSound_36 : decode cX6_isSound 36 = .ok (.getfield 34, 3) := by decide +kernel
theorem dX6_isSound_39 : decode cX6_isSound 39 = .ok (.iload 4, 2) := by decide +kernel
theorem dX6_isSound_41 : decode cX6_isSound 41 = .ok (.invokevirtual 218, 3) := by decide +kernel
theorem dX6_isSound_44 : decode cX6_isSound 44 = .ok (.checkcast 55, 3) := by decide +kernel
theorem dX6_isSound_47 : decode cX6_isSound 47 = .ok (.astore 5, 2) := by decide +kernel
theorem dX6_isSound_49 : decode cX6_isSound 49 = .ok (.aload 5, 2) := by decide +kernel
theorem dX6_isSound_51 : decode cX6_isSound 51 = .ok (.getfield 159, 3) := by decide +kernel
theorem dX6_isSound_54 : decode cX6_isSound 54 = .ok (.aload 5, 2) := by decide +kernel
theorem dX6_isSound_56 : decode cX6_isSound 56 = .ok (.getfield 162, 3) := by decide +kernel
theorem dX6_isSound_59 : decode cX6_isSound 59 = .ok (.aload 5, 2) := by decide +kernel
theorem dX6_isSound_61 : decode cX6_isSound 61 = .ok (.invokevirtual 222, 3) := by decide +kernel
theorem dX6_isSound_64 : decode cX6_isSound 64 = .ok (.iadd, 1) := by decide +kernel
theorem dX6_isSound_65 : decode cX6_isSound 65 = .ok (.if_icmp .ne 13, 3) := by decide +kernel
theorem dX6_isSound_68 : decode cX6_isSound 68 = .ok (.aload_n 0, 1) := by decide +kernel
theorem dX6_isSound_69 : decode cX6_isSound 69 = .ok (.aload 5, 2) := by decide +kernel
theorem dX6_isSound_71 : decode cX6_isSound 71 = .ok (.aload_n 1, 1) := by decide +kernel
theorem dX6_isSound_72 : decode cX6_isSound 72 = .ok (.invokevirtual 225, 3) := by decide +kernel
theorem dX6_isSound_75 : decode cX6_isSound 75 = .ok (.ifCond .ne 5, 3) := by decide +kernel
theorem dX6_isSound_78 : decode cX6_isSound 78 = .ok (.iconst 0, 1) := by decide +kernel
theorem dX6_isSound_79 : decode cX6_isSound 79 = .ok (.ireturn, 1) := by decide +kernel
theorem dX6_isSound_80 : decode cX6_isSound 80 = .ok (.lload_n 2, 1) := by decide +kernel
theorem dX6_isSound_81 : decode cX6_isSound 81 = .ok (.aload_n 0, 1) := by decide +kernel
theorem dX6_isSound_82 : decode cX6_isSound 82 = .ok (.getfield 12, 3) := by decide +kernel
theorem dX6_isSound_85 : decode cX6_isSound 85 = .ok (.iload 4, 2) := by decide +kernel
theorem dX6_isSound_87 : decode cX6_isSound 87 = .ok (.invokevirtual 183, 3) := by decide +kernel
theorem dX6_isSound_90 : decode cX6_isSound 90 = .ok (.ladd, 1) := by decide +kernel
theorem dX6_isSound_91 : decode cX6_isSound 91 = .ok (.lstore_n 2, 1) := by decide +kernel
theorem dX6_isSound_92 : decode cX6_isSound 92 = .ok (.iinc 4 1, 3) := by decide +kernel
theorem dX6_isSound_95 : decode cX6_isSound 95 = .ok (.goto (-78), 3) := by decide +kernel
theorem dX6_isSound_98 : decode cX6_isSound 98 = .ok (.lload_n 2, 1) := by decide +kernel
theorem dX6_isSound_99 : decode cX6_isSound 99 = .ok (.lconst 0, 1) := by decide +kernel
theorem dX6_isSound_100 : decode cX6_isSound 100 = .ok (.lcmp, 1) := by decide +kernel
theorem dX6_isSound_101 : decode cX6_isSound 101 = .ok (.ifCond .ne 7, 3) := by decide +kernel
theorem dX6_isSound_104 : decode cX6_isSound 104 = .ok (.iconst 1, 1) := by decide +kernel
theorem dX6_isSound_105 : decode cX6_isSound 105 = .ok (.goto 4, 3) := by decide +kernel
theorem dX6_isSound_108 : decode cX6_isSound 108 = .ok (.iconst 0, 1) := by decide +kernel
theorem dX6_isSound_109 : decode cX6_isSound 109 = .ok (.ireturn, 1) := by decide +kernel
set_option maxRecDepth 20000 in
theorem ggX6_isInvoicedAlike_Jx4a65c_size_8abf5 : GoodIn wsX6_isInvoicedAlike wsJx4a65c_size_8abf5 := goodIn_r _ [9, 10, 61, 62, 63] (by decide +kernel) (by decide +kernel)
set_option maxRecDepth 20000 in
theorem gX6_isInvoicedAlike_Jx4a65c_size_8abf5 : GoodIn wsX6_isInvoicedAlike (wsV RX6 37 RJx4a65c yJx4a65c_size_8abf5 wsJx4a65c_size_8abf5) := goodIn_app (goodIn_of _ (by decide +kernel)) ggX6_isInvoicedAlike_Jx4a65c_size_8abf5
set_option maxRecDepth 20000 in
theorem ggX6_isInvoicedAlike_Jx4a65c_get_915e3 : GoodIn wsX6_isInvoicedAlike wsJx4a65c_get_915e3 := goodIn_r _ [14, 10, 15, 16, 17, 18, 19, 20, 21, 22, 23, 24, 25, 8, 26, 27, 61, 62, 63] (by decide +kernel) (by decide +kernel)
set_option maxRecDepth 20000 in
theorem gX6_isInvoicedAlike_Jx4a65c_get_915e3 : GoodIn wsX6_isInvoicedAlike (wsV RX6 218 RJx4a65c yJx4a65c_get_915e3 wsJx4a65c_get_915e3) := goodIn_app (goodIn_of _ (by decide +kernel)) ggX6_isInvoicedAlike_Jx4a65c_get_915e3
set_option maxRecDepth 20000 in
theorem ggX6_isInvoicedAlike_X3_centsFrom : GoodIn wsX6_isInvoicedAlike wsX3_centsFrom := goodIn_ca (goodIn_r _ [32, 33, 34, 35, 36, 31, 37, 38, 39, 40, 41, 42, 43, 44, 45, 46, 47, 48, 49, 50, 51, 52, 53] (by decide +kernel) (by decide +kernel)) (goodIn_sub (fun _ h => List.mem_cons_of_mem _ (List.mem_append_right _ h)) (by decide +kernel))
set_option maxRecDepth 20000 in
theorem gX6_isInvoicedAlike_X3_centsFrom : GoodIn wsX6_isInvoicedAlike (wsV RX6 176 RX3 yX3_centsFrom wsX3_centsFrom) := goodIn_app (goodIn_of _ (by decide +kernel)) ggX6_isInvoicedAlike_X3_centsFrom
theorem dX6_isInvoicedAlike_0 : decode cX6_isInvoicedAlike 0 = .ok (.aload_n 1, 1) := by decide +kernel
theorem dX6_isInvoicedAlike_1 : decode cX6_isInvoicedAlike 1 = .ok (.getfield 127, 3) := by decide +kernel
theorem dX6_isInvoicedAlike_4 : decode cX6_isInvoicedAlike 4 = .ok (.ifCond .lt 17, 3) := by decide +kernel
theorem dX6_isInvoicedAlike_7 : decode cX6_isInvoicedAlike 7 = .ok (.aload_n 1, 1) := by decide +kernel
theorem dX6_isInvoicedAlike_8 : decode cX6_isInvoicedAlike 8 = .ok (.getfield 127, 3) := by decide +kernel
theorem dX6_isInvoicedAlike_11 : decode cX6_isInvoicedAlike 11 = .ok (.aload_n 2, 1) := by decide +kernel
theorem dX6_isInvoicedAlike_12 : decode cX6_isInvoicedAlike 12 = .ok (.getfield 34, 3) := by decide +kernel
theorem dX6_isInvoicedAlike_15 : decode cX6_isInvoicedAlike 15 = .ok (.invokevirtual 37, 3) := by decide +kernel
theorem dX6_isInvoicedAlike_18 : decode cX6_isInvoicedAlike 18 = .ok (.if_icmp .lt 5, 3) := by decide +kernel
theorem dX6_isInvoicedAlike_21 : decode cX6_isInvoicedAlike 21 = .ok (.iconst 0, 1) := by decide +kernel
theorem dX6_isInvoicedAlike_22 : decode cX6_isInvoicedAlike 22 = .ok (.ireturn, 1) := by decide +kernel
theorem dX6_isInvoicedAlike_23 : decode cX6_isInvoicedAlike 23 = .ok (.aload_n 2, 1) := by decide +kernel
theorem dX6_isInvoicedAlike_24 : decode cX6_isInvoicedAlike 24 = .ok (.getfield 34, 3) := by decide +kernel
theorem dX6_isInvoicedAlike_27 : decode cX6_isInvoicedAlike 27 = .ok (.aload_n 1, 1) := by decide +kernel
theorem dX6_isInvoicedAlike_28 : decode cX6_isInvoicedAlike 28 = .ok (.getfield 127, 3) := by decide +kernel
theorem dX6_isInvoicedAlike_31 : decode cX6_isInvoicedAlike 31 = .ok (.invokevirtual 218, 3) := by decide +kernel
theorem dX6_isInvoicedAlike_34 : decode cX6_isInvoicedAlike 34 = .ok (.checkcast 55, 3) := by decide +kernel
theorem dX6_isInvoicedAlike_37 : decode cX6_isInvoicedAlike 37 = .ok (.astore_n 3, 1) := by decide +kernel
theorem dX6_isInvoicedAlike_38 : decode cX6_isInvoicedAlike 38 = .ok (.iconst (-1), 1) := by decide +kernel
theorem dX6_isInvoicedAlike_39 : decode cX6_isInvoicedAlike 39 = .ok (.istore 4, 2) := by decide +kernel
theorem dX6_isInvoicedAlike_41 : decode cX6_isInvoicedAlike 41 = .ok (.iload 4, 2) := by decide +kernel
theorem dX6_isInvoicedAlike_43 : decode cX6_isInvoicedAlike 43 = .ok (.aload_n 0, 1) := by decide +kernel
theorem dX6_isInvoicedAlike_44 : decode cX6_isInvoicedAlike 44 = .ok (.getfield 12, 3) := by decide +kernel
theorem dX6_isInvoicedAlike_47 : decode cX6_isInvoicedAlike 47 = .ok (.getfield 34, 3) := by decide +kernel
theorem dX6_isInvoicedAlike_50 : decode cX6_isInvoicedAlike 50 = .ok (.invokevirtual 37, 3) := by decide +kernel
theorem dX6_isInvoicedAlike_53 : decode cX6_isInvoicedAlike 53 = .ok (.if_icmp .ge 26, 3) := by decide +kernel
theorem dX6_isInvoicedAlike_56 : decode cX6_isInvoicedAlike 56 = .ok (.aload_n 1, 1) := by decide +kernel
theorem dX6_isInvoicedAlike_57 : decode cX6_isInvoicedAlike 57 = .ok (.iload 4, 2) := by decide +kernel
theorem dX6_isInvoicedAlike_59 : decode cX6_isInvoicedAlike 59 = .ok (.invokevirtual 176, 3) := by decide +kernel
theorem dX6_isInvoicedAlike_62 : decode cX6_isInvoicedAlike 62 = .ok (.aload_n 3, 1) := by decide +kernel
theorem dX6_isInvoicedAlike_63 : decode cX6_isInvoicedAlike 63 = .ok (.iload 4, 2) := by decide +kernel
theorem dX6_isInvoicedAlike_65 : decode cX6_isInvoicedAlike 65 = .ok (.invokevirtual 176, 3) := by decide +kernel
theorem dX6_isInvoicedAlike_68 : decode cX6_isInvoicedAlike 68 = .ok (.if_icmp .eq 5, 3) := by decide +kernel
theorem dX6_isInvoicedAlike_71 : decode cX6_isInvoicedAlike 71 = .ok (.iconst 0, 1) := by decide +kernel
theorem dX6_isInvoicedAlike_72 : decode cX6_isInvoicedAlike 72 = .ok (.ireturn, 1) := by decide +kernel
theorem dX6_isInvoicedAlike_73 : decode cX6_isInvoicedAlike 73 = .ok (.iinc 4 1, 3) := by decide +kernel
theorem dX6_isInvoicedAlike_76 : decode cX6_isInvoicedAlike 76 = .ok (.goto (-35), 3) := by decide +kernel
theorem dX6_isInvoicedAlike_79 : decode cX6_isInvoicedAlike 79 = .ok (.iconst 1, 1) := by decide +kernel
theorem dX6_isInvoicedAlike_80 : decode cX6_isInvoicedAlike 80 = .ok (.ireturn, 1) := by decide +kernel
set_option maxRecDepth 20000 in
theorem ggX6_happen_X1_init : GoodIn wsX6_happen wsX1_init := goodIn_r _ [8, 9, 10, 11, 12, 13, 14, 15, 339, 340, 341, 342] (by decide +kernel) (by decide +kernel)
set_option maxRecDepth 20000 in
theorem gX6_happen_X1_init : GoodIn wsX6_happen (wsX1_init) := ggX6_happen_X1_init
set_option maxRecDepth 20000 in
theorem ggX6_happen_Jx4a65c_size_8abf5 : GoodIn wsX6_happen wsJx4a65c_size_8abf5 := goodIn_r _ [20, 21, 345, 346, 347] (by decide +kernel) (by decide +kernel)
set_option maxRecDepth 20000 in
theorem gX6_happen_Jx4a65c_size_8abf5 : GoodIn wsX6_happen (wsV RX6 37 RJx4a65c yJx4a65c_size_8abf5 wsJx4a65c_size_8abf5) := goodIn_app (goodIn_of _ (by decide +kernel)) ggX6_happen_Jx4a65c_size_8abf5
set_option maxRecDepth 20000 in
theorem ggX6_happen_Jx4a65c_add_9ea2d : GoodIn wsX6_happen wsJx4a65c_add_9ea2d := goodIn_r _ [25, 26, 27, 28, 21, 29, 30, 31, 19, 32, 33, 34, 35, 36, 37, 38, 39, 40, 41, 42, 43, 44, 45, 46, 47, 48, 49, 50, 51, 52, 53, 54, 55, 56, 57, 58, 59, 60, 61, 62, 63, 64, 65, 66, 67, 68, 69, 70, 71, 72, 73, 74, 75, 345, 346, 347] (by decide +kernel) (by decide +kernel)
set_option maxRecDepth 20000 in
theorem gX6_happen_Jx4a65c_add_9ea2d : GoodIn wsX6_happen (wsV RX6 234 RJx4a65c yJx4a65c_add_9ea2d wsJx4a65c_add_9ea2d) := goodIn_app (goodIn_of _ (by decide +kernel)) ggX6_happen_Jx4a65c_add_9ea2d
set_option maxRecDepth 20000 in
theorem ggX6_happen_X0_undergo : GoodIn wsX6_happen wsX0_undergo := goodIn_ca (goodIn_ca (goodIn_r _ [80, 81, 82, 83, 84, 85, 86, 87, 79, 88, 89, 90, 91, 92, 93, 94, 17, 18, 19, 20, 21, 95, 96, 97, 98, 10, 11, 99, 100, 101, 102, 103, 104, 105, 106, 107, 108, 109, 23, 24, 25, 26, 27, 28, 29, 30, 31, 32, 33, 34, 35, 36, 37, 38, 39, 40, 41, 42, 43, 44, 45, 46, 47, 48, 49, 50, 51, 52, 53, 54, 55, 56, 57, 58, 59, 60, 61, 62, 63, 64, 65, 66, 67, 68, 69, 70, 71, 72, 73, 74, 75, 110, 111, 112, 113, 114, 115, 116, 117, 118, 119, 120, 121, 122, 123, 124, 125, 126, 127, 128, 129, 130, 131, 132, 133, 134, 135, 136, 137, 138, 139, 140, 141, 142, 143, 144, 145, 146, 147, 148, 149, 150, 151, 152, 153, 154, 155, 156, 157, 158, 159, 160, 161, 162, 163, 164, 165, 166, 167, 168, 169, 170, 171, 172, 173, 174, 175, 176, 177, 178, 179, 180, 181, 182, 183, 184, 185, 186, 187, 188, 189, 190, 191, 192, 193, 194, 195, 196, 197, 198, 199, 200, 201, 202, 203, 204, 205, 206, 207, 208, 209, 210, 211, 212, 213, 214, 215, 216, 217, 218, 219, 220, 221, 222, 223, 224, 225, 226, 227, 228, 229, 230, 231, 232, 233, 234, 235, 236, 237, 238, 239, 240, 241, 242, 243, 244, 245, 246, 247, 248, 249, 250, 251, 252, 253, 254, 255, 256, 257, 258, 259, 260, 261, 262, 263, 264, 265, 266, 267, 268, 269, 270, 271, 272, 273, 274, 275, 276, 277, 278, 279, 280, 281, 282, 283, 284, 285, 286, 287, 288, 289, 290, 291, 292, 293, 294, 295, 296, 297, 298, 299, 300, 301, 302, 303, 304, 305, 306, 307, 308, 309, 310, 311, 312, 313, 314, 315, 316, 317, 318, 319, 320, 321, 322, 323, 324, 325, 326, 327, 328, 329, 330, 331, 332, 333, 334, 335, 336, 337, 338, 339, 340, 341, 342, 348, 349, 350, 351, 352, 353, 354, 355, 356, 357, 358, 359, 360, 361, 362, 363, 364, 365, 366, 367, 345, 346, 347, 368, 369, 370, 371, 372, 373, 374, 375, 376, 377, 378] (by decide +kernel) (by decide +kernel)) (goodIn_sub (fun _ h => List.mem_cons_of_mem _ (List.mem_append_left _ (List.mem_append_right _ h))) (by decide +kernel))) (goodIn_sub (fun _ h => List.mem_cons_of_mem _ (List.mem_append_right _ h)) (by decide +kernel))
set_option maxRecDepth 20000 in
theorem gX6_happen_X0_undergo : GoodIn wsX6_happen (wsV RX6 238 RX0 yX0_undergo wsX0_undergo) := goodIn_app (goodIn_of _ (by decide +kernel)) ggX6_happen_X0_undergo
theorem dX6_happen_0 : decode cX6_happen 0 = .ok (.new 229, 3) := by decide +kernel
theorem dX6_happen_3 : decode cX6_happen 3 = .ok (.dup, 1) := by decide +kernel
theorem dX6_happen_4 : decode cX6_happen 4 = .ok (.iload_n 1, 1) := by decide +kernel
theorem dX6_happen_5 : decode cX6_happen 5 = .ok (.iload_n 2, 1) := by decide +kernel
theorem dX6_happen_6 : decode cX6_happen 6 = .ok (.iload_n 3, 1) := by decide +kernel
theorem dX6_happen_7 : decode cX6_happen 7 = .ok (.iload 4, 2) := by decide +kernel
theorem dX6_happen_9 : decode cX6_happen 9 = .ok (.invokespecial 231, 3) := by decide +kernel
theorem dX6_happen_12 : decode cX6_happen 12 = .ok (.astore 5, 2) := by decide +kernel
theorem dX6_happen_14 : decode cX6_happen 14 = .ok (.aload_n 0, 1) := by decide +kernel
theorem dX6_happen_15 : decode cX6_happen 15 = .ok (.getfield 19, 3) := by decide +kernel
theorem dX6_happen_18 : decode cX6_happen 18 = .ok (.invokevirtual 37, 3) := by decide +kernel
theorem dX6_happen_21 : decode cX6_happen 21 = .ok (.sipush 512, 3) := by decide +kernel
theorem dX6_happen_24 : decode cX6_happen 24 = .ok (.if_icmp .ge 13, 3) := by decide +kernel
theorem dX6_happen_27 : decode cX6_happen 27 = .ok (.aload_n 0, 1) := by decide +kernel
theorem dX6_happen_28 : decode cX6_happen 28 = .ok (.getfield 19, 3) := by decide +kernel
theorem dX6_happen_31 : decode cX6_happen 31 = .ok (.aload 5, 2) := by decide +kernel
theorem dX6_happen_33 : decode cX6_happen 33 = .ok (.invokevirtual 234, 3) := by decide +kernel
theorem dX6_happen_36 : decode cX6_happen 36 = .ok (.pop, 1) := by decide +kernel
theorem dX6_happen_37 : decode cX6_happen 37 = .ok (.aload_n 0, 1) := by decide +kernel
theorem dX6_happen_38 : decode cX6_happen 38 = .ok (.getfield 12, 3) := by decide +kernel
theorem dX6_happen_41 : decode cX6_happen 41 = .ok (.aload 5, 2) := by decide +kernel
theorem dX6_happen_43 : decode cX6_happen 43 = .ok (.invokevirtual 238, 3) := by decide +kernel
theorem dX6_happen_46 : decode cX6_happen 46 = .ok (.ireturn, 1) := by decide +kernel
set_option maxRecDepth 20000 in
theorem ggX6_dockAnew_X0_init : GoodIn wsX6_dockAnew wsX0_init := goodIn_r _ [7, 8, 9, 10, 11, 12, 13, 14, 15, 16, 17, 18, 19, 20, 21, 22, 23, 24, 25, 26, 27, 28, 29, 30, 31, 32, 33, 355, 356, 357, 348, 349, 350, 351, 352] (by decide +kernel) (by decide +kernel)
set_option maxRecDepth 20000 in
theorem gX6_dockAnew_X0_init_n11 : GoodIn wsX6_dockAnew (wsX0_init) := ggX6_dockAnew_X0_init
set_option maxRecDepth 20000 in
theorem ggX6_dockAnew_Jx4a65c_size_8abf5 : GoodIn wsX6_dockAnew wsJx4a65c_size_8abf5 := goodIn_r _ [37, 38, 355, 356, 357] (by decide +kernel) (by decide +kernel)
set_option maxRecDepth 20000 in
theorem gX6_dockAnew_Jx4a65c_size_8abf5 : GoodIn wsX6_dockAnew (wsV RX6 37 RJx4a65c yJx4a65c_size_8abf5 wsJx4a65c_size_8abf5) := goodIn_app (goodIn_of _ (by decide +kernel)) ggX6_dockAnew_Jx4a65c_size_8abf5
set_option maxRecDepth 20000 in
theorem ggX6_dockAnew_Jx4a65c_get_915e3 : GoodIn wsX6_dockAnew wsJx4a65c_get_915e3 := goodIn_r _ [42, 38, 43, 44, 45, 46, 47, 48, 49, 50, 51, 52, 53, 13, 54, 23, 355, 356, 357] (by decide +kernel) (by decide +kernel)
set_option maxRecDepth 20000 in
theorem gX6_dockAnew_Jx4a65c_get_915e3 : GoodIn wsX6_dockAnew (wsV RX6 218 RJx4a65c yJx4a65c_get_915e3 wsJx4a65c_get_915e3) := goodIn_app (goodIn_of _ (by decide +kernel)) ggX6_dockAnew_Jx4a65c_get_915e3
set_option maxRecDepth 20000 in
theorem ggX6_dockAnew_X0_undergo : GoodIn wsX6_dockAnew wsX0_undergo := goodIn_ca (goodIn_ca (goodIn_r _ [58, 59, 60, 61, 62, 63, 64, 65, 3, 66, 14, 17, 67, 68, 69, 70, 35, 36, 13, 37, 38, 71, 72, 73, 74, 9, 10, 75, 76, 77, 78, 79, 80, 81, 82, 83, 84, 85, 86, 87, 88, 89, 90, 23, 91, 92, 93, 94, 95, 96, 97, 98, 99, 100, 101, 102, 22, 103, 104, 105, 106, 107, 108, 109, 110, 111, 112, 113, 114, 115, 116, 117, 118, 119, 120, 121, 122, 123, 124, 125, 126, 127, 128, 129, 130, 131, 132, 133, 134, 135, 136, 137, 138, 139, 140, 15, 141, 142, 143, 144, 145, 146, 147, 148, 149, 150, 151, 40, 41, 42, 43, 44, 45, 46, 47, 48, 49, 50, 51, 52, 53, 54, 152, 153, 154, 155, 156, 157, 158, 159, 160, 161, 162, 163, 164, 165, 166, 167, 168, 169, 170, 171, 172, 173, 174, 175, 176, 177, 178, 179, 180, 181, 182, 183, 184, 185, 186, 18, 187, 188, 189, 190, 191, 192, 193, 194, 195, 196, 197, 198, 199, 200, 201, 202, 203, 204, 205, 206, 16, 207, 208, 209, 210, 211, 212, 213, 214, 215, 216, 217, 218, 219, 220, 221, 222, 223, 224, 225, 226, 227, 228, 229, 230, 231, 232, 233, 234, 235, 236, 237, 238, 239, 240, 241, 242, 243, 244, 245, 246, 247, 248, 249, 250, 251, 252, 253, 254, 255, 256, 257, 258, 259, 260, 261, 262, 263, 264, 265, 266, 267, 268, 269, 270, 271, 272, 273, 274, 275, 276, 277, 278, 279, 280, 281, 282, 283, 284, 285, 286, 287, 288, 289, 290, 291, 292, 293, 294, 295, 296, 297, 298, 299, 300, 301, 302, 303, 304, 305, 306, 307, 308, 309, 310, 311, 312, 313, 314, 315, 316, 317, 318, 319, 320, 321, 322, 323, 324, 325, 326, 327, 328, 329, 330, 331, 332, 333, 334, 335, 336, 337, 338, 339, 340, 341, 342, 343, 344, 345, 346, 347, 358, 359, 360, 361, 348, 349, 350, 351, 352, 362, 363, 364, 365, 366, 367, 368, 369, 370, 371, 372, 373, 374, 375, 376, 355, 356, 357, 377, 378, 379, 380, 381, 382, 383, 384, 385, 386, 387] (by decide +kernel) (by decide +kernel)) (goodIn_sub (fun _ h => List.mem_cons_of_mem _ (List.mem_append_left _ (List.mem_append_right _ h))) (by decide +kernel))) (goodIn_sub (fun _ h => List.mem_cons_of_mem _ (List.mem_append_right _ h)) (by decide +kernel))
set_option maxRecDepth 20000 in
theorem gX6_dockAnew_X0_undergo : GoodIn wsX6_dockAnew (wsV RX6 238 RX0 yX0_undergo wsX0_undergo) := goodIn_app (goodIn_of _ (by decide +kernel)) ggX6_dockAnew_X0_undergo
theorem dX6_dockAnew_0 : decode cX6_dockAnew 0 = .ok (.new 9, 3) := by decide +kernel
theorem dX6_dockAnew_3 : decode cX6_dockAnew 3 = .ok (.dup, 1) := by decide +kernel
theorem dX6_dockAnew_4 : decode cX6_dockAnew 4 = .ok (.invokespecial 11, 3) := by decide +kernel
theorem dX6_dockAnew_7 : decode cX6_dockAnew 7 = .ok (.astore_n 1, 1) := by decide +kernel
theorem dX6_dockAnew_8 : decode cX6_dockAnew 8 = .ok (.iconst 0, 1) := by decide +kernel
theorem dX6_dockAnew_9 : decode cX6_dockAnew 9 = .ok (.istore_n 2, 1) := by decide +kernel
theorem dX6_dockAnew_10 : decode cX6_dockAnew 10 = .ok (.iload_n 2, 1) := by decide +kernel
theorem dX6_dockAnew_11 : decode cX6_dockAnew 11 = .ok (.aload_n 0, 1) := by decide +kernel
theorem dX6_dockAnew_12 : decode cX6_dockAnew 12 = .ok (.getfield 19, 3) := by decide +kernel
theorem dX6_dockAnew_15 : decode cX6_dockAnew 15 = .ok (.invokevirtual 37, 3) := by decide +kernel
theorem dX6_dockAnew_18 : decode cX6_dockAnew 18 = .ok (.if_icmp .ge 25, 3) := by decide +kernel
theorem dX6_dockAnew_21 : decode cX6_dockAnew 21 = .ok (.aload_n 1, 1) := by decide +kernel
theorem dX6_dockAnew_22 : decode cX6_dockAnew 22 = .ok (.aload_n 0, 1) := by decide +kernel
theorem dX6_dockAnew_23 : decode cX6_dockAnew 23 = .ok (.getfield 19, 3) := by decide +kernel
theorem dX6_dockAnew_26 : decode cX6_dockAnew 26 = .ok (.iload_n 2, 1) := by decide +kernel
theorem dX6_dockAnew_27 : decode cX6_dockAnew 27 = .ok (.invokevirtual 218, 3) := by decide +kernel
theorem dX6_dockAnew_30 : decode cX6_dockAnew 30 = .ok (.checkcast 229, 3) := by decide +kernel
theorem dX6_dockAnew_33 : decode cX6_dockAnew 33 = .ok (.invokevirtual 238, 3) := by decide +kernel
theorem dX6_dockAnew_36 : decode cX6_dockAnew 36 = .ok (.pop, 1) := by decide +kernel
theorem dX6_dockAnew_37 : decode cX6_dockAnew 37 = .ok (.iinc 2 1, 3) := by decide +kernel
theorem dX6_dockAnew_40 : decode cX6_dockAnew 40 = .ok (.goto (-30), 3) := by decide +kernel
theorem dX6_dockAnew_43 : decode cX6_dockAnew 43 = .ok (.aload_n 1, 1) := by decide +kernel
theorem dX6_dockAnew_44 : decode cX6_dockAnew 44 = .ok (.areturn, 1) := by decide +kernel
set_option maxRecDepth 20000 in
theorem ggX6_requireDebtor_X0_existingLorry : GoodIn wsX6_requireDebtor wsX0_existingLorry := goodIn_ca (goodIn_r _ [6, 7, 8, 9, 10, 11, 12, 13, 14, 15, 16, 17, 18, 19, 20, 21, 22, 23, 24, 25, 26, 27, 28, 29, 30, 31, 32, 33, 36, 37, 38, 39, 40, 41, 42, 43] (by decide +kernel) (by decide +kernel)) (goodIn_sub (fun _ h => List.mem_cons_of_mem _ (List.mem_append_right _ h)) (by decide +kernel))
set_option maxRecDepth 20000 in
theorem gX6_requireDebtor_X0_existingLorry : GoodIn wsX6_requireDebtor (wsV RX6 50 RX0 yX0_existingLorry wsX0_existingLorry) := goodIn_app (goodIn_of _ (by decide +kernel)) ggX6_requireDebtor_X0_existingLorry
theorem dX6_requireDebtor_0 : decode cX6_requireDebtor 0 = .ok (.iload_n 1, 1) := by decide +kernel
theorem dX6_requireDebtor_1 : decode cX6_requireDebtor 1 = .ok (.iconst (-1), 1) := by decide +kernel
theorem dX6_requireDebtor_2 : decode cX6_requireDebtor 2 = .ok (.if_icmp .eq 12, 3) := by decide +kernel
theorem dX6_requireDebtor_5 : decode cX6_requireDebtor 5 = .ok (.aload_n 0, 1) := by decide +kernel
theorem dX6_requireDebtor_6 : decode cX6_requireDebtor 6 = .ok (.getfield 12, 3) := by decide +kernel
theorem dX6_requireDebtor_9 : decode cX6_requireDebtor 9 = .ok (.iload_n 1, 1) := by decide +kernel
theorem dX6_requireDebtor_10 : decode cX6_requireDebtor 10 = .ok (.invokevirtual 50, 3) := by decide +kernel
theorem dX6_requireDebtor_13 : decode cX6_requireDebtor 13 = .ok (.pop, 1) := by decide +kernel
theorem dX6_requireDebtor_14 : decode cX6_requireDebtor 14 = .ok (.return_, 1) := by decide +kernel
set_option maxRecDepth 20000 in
theorem ggX6_requireDoor_X6_isWithin : GoodIn wsX6_requireDoor wsX6_isWithin := goodIn_r _ [6] (by decide +kernel) (by decide +kernel)
set_option maxRecDepth 20000 in
theorem gX6_requireDoor_X6_isWithin : GoodIn wsX6_requireDoor (va_wsS RX6 23 yX6_isWithin wsX6_isWithin) := goodIn_app (goodIn_of _ (by decide +kernel)) ggX6_requireDoor_X6_isWithin
theorem dX6_requireDoor_0 : decode cX6_requireDoor 0 = .ok (.iload_n 0, 1) := by decide +kernel
theorem dX6_requireDoor_1 : decode cX6_requireDoor 1 = .ok (.iconst 0, 1) := by decide +kernel
theorem dX6_requireDoor_2 : decode cX6_requireDoor 2 = .ok (.iconst 3, 1) := by decide +kernel
theorem dX6_requireDoor_3 : decode cX6_requireDoor 3 = .ok (.invokestatic 23, 3) := by decide +kernel
theorem dX6_requireDoor_6 : decode cX6_requireDoor 6 = .ok (.ifCond .ne 13, 3) := by decide +kernel
theorem dX6_requireDoor_9 : decode cX6_requireDoor 9 = .ok (.new 242, 3) := by decide +kernel
theorem dX6_requireDoor_12 : decode cX6_requireDoor 12 = .ok (.dup, 1) := by decide +kernel
theorem dX6_requireDoor_13 : decode cX6_requireDoor 13 = .ok (.ldc 244, 2) := by decide +kernel
theorem dX6_requireDoor_15 : decode cX6_requireDoor 15 = .ok (.invokespecial 246, 3) := by decide +kernel
theorem dX6_requireDoor_18 : decode cX6_requireDoor 18 = .ok (.athrow, 1) := by decide +kernel
theorem dX6_requireDoor_19 : decode cX6_requireDoor 19 = .ok (.return_, 1) := by decide +kernel
theorem dX6_isWithin_0 : decode cX6_isWithin 0 = .ok (.iload_n 0, 1) := by decide +kernel
theorem dX6_isWithin_1 : decode cX6_isWithin 1 = .ok (.iload_n 1, 1) := by decide +kernel
theorem dX6_isWithin_2 : decode cX6_isWithin 2 = .ok (.if_icmp .lt 12, 3) := by decide +kernel
theorem dX6_isWithin_5 : decode cX6_isWithin 5 = .ok (.iload_n 0, 1) := by decide +kernel
theorem dX6_isWithin_6 : decode cX6_isWithin 6 = .ok (.iload_n 2, 1) := by decide +kernel
theorem dX6_isWithin_7 : decode cX6_isWithin 7 = .ok (.if_icmp .gt 7, 3) := by decide +kernel
theorem dX6_isWithin_10 : decode cX6_isWithin 10 = .ok (.iconst 1, 1) := by decide +kernel
theorem dX6_isWithin_11 : decode cX6_isWithin 11 = .ok (.goto 4, 3) := by decide +kernel
theorem dX6_isWithin_14 : decode cX6_isWithin 14 = .ok (.iconst 0, 1) := by decide +kernel
theorem dX6_isWithin_15 : decode cX6_isWithin 15 = .ok (.ireturn, 1) := by decide +kernel
theorem dX6_difference_0 : decode cX6_difference 0 = .ok (.iload_n 0, 1) := by decide +kernel
theorem dX6_difference_1 : decode cX6_difference 1 = .ok (.iconst (-1), 1) := by decide +kernel
theorem dX6_difference_2 : decode cX6_difference 2 = .ok (.if_icmp .eq 8, 3) := by decide +kernel
theorem dX6_difference_5 : decode cX6_difference 5 = .ok (.iload_n 1, 1) := by decide +kernel
theorem dX6_difference_6 : decode cX6_difference 6 = .ok (.iconst (-1), 1) := by decide +kernel
theorem dX6_difference_7 : decode cX6_difference 7 = .ok (.if_icmp .ne 5, 3) := by decide +kernel
theorem dX6_difference_10 : decode cX6_difference 10 = .ok (.iconst 0, 1) := by decide +kernel
theorem dX6_difference_11 : decode cX6_difference 11 = .ok (.ireturn, 1) := by decide +kernel
theorem dX6_difference_12 : decode cX6_difference 12 = .ok (.iload_n 0, 1) := by decide +kernel
theorem dX6_difference_13 : decode cX6_difference 13 = .ok (.iload_n 1, 1) := by decide +kernel
theorem dX6_difference_14 : decode cX6_difference 14 = .ok (.if_icmp .le 9, 3) := by decide +kernel
theorem dX6_difference_17 : decode cX6_difference 17 = .ok (.iload_n 0, 1) := by decide +kernel
theorem dX6_difference_18 : decode cX6_difference 18 = .ok (.iload_n 1, 1) := by decide +kernel
theorem dX6_difference_19 : decode cX6_difference 19 = .ok (.isub, 1) := by decide +kernel
theorem dX6_difference_20 : decode cX6_difference 20 = .ok (.goto 6, 3) := by decide +kernel
theorem dX6_difference_23 : decode cX6_difference 23 = .ok (.iload_n 1, 1) := by decide +kernel
theorem dX6_difference_24 : decode cX6_difference 24 = .ok (.iload_n 0, 1) := by decide +kernel
theorem dX6_difference_25 : decode cX6_difference 25 = .ok (.isub, 1) := by decide +kernel
theorem dX6_difference_26 : decode cX6_difference 26 = .ok (.ireturn, 1) := by decide +kernel
