set_option maxRecDepth 20000 in
theorem ggX0_init_Jx4a65c_init_da8c8 : GoodIn wsX0_init wsJx4a65c_init_da8c8 := goodIn_r _ [14, 15, 16, 17, 18, 19, 20, 21, 22, 23, 24, 25, 26, 2, 3, 27, 28, 29] (by decide +kernel) (by decide +kernel)
set_option maxRecDepth 20000 in
theorem gX0_init_Jx4a65c_init_da8c8 : GoodIn wsX0_init (wsJx4a65c_init_da8c8) := ggX0_init_Jx4a65c_init_da8c8
theorem dX0_init_0 : decode cX0_init 0 = .ok (.aload_n 0, 1) := by decide +kernel
theorem dX0_init_1 : decode cX0_init 1 = .ok (.invokespecial 3, 3) := by decide +kernel
theorem dX0_init_4 : decode cX0_init 4 = .ok (.aload_n 0, 1) := by decide +kernel
theorem dX0_init_5 : decode cX0_init 5 = .ok (.new 9, 3) := by decide +kernel
theorem dX0_init_8 : decode cX0_init 8 = .ok (.dup, 1) := by decide +kernel
theorem dX0_init_9 : decode cX0_init 9 = .ok (.invokespecial 11, 3) := by decide +kernel
theorem dX0_init_12 : decode cX0_init 12 = .ok (.putfield 12, 3) := by decide +kernel
theorem dX0_init_15 : decode cX0_init 15 = .ok (.aload_n 0, 1) := by decide +kernel
theorem dX0_init_16 : decode cX0_init 16 = .ok (.new 9, 3) := by decide +kernel
theorem dX0_init_19 : decode cX0_init 19 = .ok (.dup, 1) := by decide +kernel
theorem dX0_init_20 : decode cX0_init 20 = .ok (.invokespecial 11, 3) := by decide +kernel
theorem dX0_init_23 : decode cX0_init 23 = .ok (.putfield 18, 3) := by decide +kernel
theorem dX0_init_26 : decode cX0_init 26 = .ok (.aload_n 0, 1) := by decide +kernel
theorem dX0_init_27 : decode cX0_init 27 = .ok (.new 9, 3) := by decide +kernel
theorem dX0_init_30 : decode cX0_init 30 = .ok (.dup, 1) := by decide +kernel
theorem dX0_init_31 : decode cX0_init 31 = .ok (.invokespecial 11, 3) := by decide +kernel
theorem dX0_init_34 : decode cX0_init 34 = .ok (.putfield 21, 3) := by decide +kernel
theorem dX0_init_37 : decode cX0_init 37 = .ok (.aload_n 0, 1) := by decide +kernel
theorem dX0_init_38 : decode cX0_init 38 = .ok (.iconst 4, 1) := by decide +kernel
theorem dX0_init_39 : decode cX0_init 39 = .ok (.anewarray 24, 3) := by decide +kernel
theorem dX0_init_42 : decode cX0_init 42 = .ok (.putfield 26, 3) := by decide +kernel
theorem dX0_init_45 : decode cX0_init 45 = .ok (.return_, 1) := by decide +kernel
set_option maxRecDepth 20000 in
theorem ggX0_existingLorry_Jx4a65c_size_8abf5 : GoodIn wsX0_existingLorry wsJx4a65c_size_8abf5 := goodIn_r _ [9, 10, 33, 34, 35] (by decide +kernel) (by decide +kernel)
set_option maxRecDepth 20000 in
theorem gX0_existingLorry_Jx4a65c_size_8abf5 : GoodIn wsX0_existingLorry (wsV RX0 30 RJx4a65c yJx4a65c_size_8abf5 wsJx4a65c_size_8abf5) := goodIn_app (goodIn_of _ (by decide +kernel)) ggX0_existingLorry_Jx4a65c_size_8abf5
set_option maxRecDepth 20000 in
theorem ggX0_existingLorry_Jx4a65c_get_915e3 : GoodIn wsX0_existingLorry wsJx4a65c_get_915e3 := goodIn_r _ [14, 10, 15, 16, 17, 18, 19, 20, 21, 22, 23, 24, 25, 8, 26, 27, 33, 34, 35] (by decide +kernel) (by decide +kernel)
set_option maxRecDepth 20000 in
theorem gX0_existingLorry_Jx4a65c_get_915e3 : GoodIn wsX0_existingLorry (wsV RX0 41 RJx4a65c yJx4a65c_get_915e3 wsJx4a65c_get_915e3) := goodIn_app (goodIn_of _ (by decide +kernel)) ggX0_existingLorry_Jx4a65c_get_915e3
theorem dX0_existingLorry_0 : decode cX0_existingLorry 0 = .ok (.iload_n 1, 1) := by decide +kernel
theorem dX0_existingLorry_1 : decode cX0_existingLorry 1 = .ok (.ifCond .lt 14, 3) := by decide +kernel
theorem dX0_existingLorry_4 : decode cX0_existingLorry 4 = .ok (.iload_n 1, 1) := by decide +kernel
theorem dX0_existingLorry_5 : decode cX0_existingLorry 5 = .ok (.aload_n 0, 1) := by decide +kernel
theorem dX0_existingLorry_6 : decode cX0_existingLorry 6 = .ok (.getfield 12, 3) := by decide +kernel
theorem dX0_existingLorry_9 : decode cX0_existingLorry 9 = .ok (.invokevirtual 30, 3) := by decide +kernel
theorem dX0_existingLorry_12 : decode cX0_existingLorry 12 = .ok (.if_icmp .lt 13, 3) := by decide +kernel
theorem dX0_existingLorry_15 : decode cX0_existingLorry 15 = .ok (.new 34, 3) := by decide +kernel
theorem dX0_existingLorry_18 : decode cX0_existingLorry 18 = .ok (.dup, 1) := by decide +kernel
theorem dX0_existingLorry_19 : decode cX0_existingLorry 19 = .ok (.ldc 36, 2) := by decide +kernel
theorem dX0_existingLorry_21 : decode cX0_existingLorry 21 = .ok (.invokespecial 38, 3) := by decide +kernel
theorem dX0_existingLorry_24 : decode cX0_existingLorry 24 = .ok (.athrow, 1) := by decide +kernel
theorem dX0_existingLorry_25 : decode cX0_existingLorry 25 = .ok (.aload_n 0, 1) := by decide +kernel
theorem dX0_existingLorry_26 : decode cX0_existingLorry 26 = .ok (.getfield 12, 3) := by decide +kernel
theorem dX0_existingLorry_29 : decode cX0_existingLorry 29 = .ok (.iload_n 1, 1) := by decide +kernel
theorem dX0_existingLorry_30 : decode cX0_existingLorry 30 = .ok (.invokevirtual 41, 3) := by decide +kernel
theorem dX0_existingLorry_33 : decode cX0_existingLorry 33 = .ok (.checkcast 24, 3) := by decide +kernel
theorem dX0_existingLorry_36 : decode cX0_existingLorry 36 = .ok (.areturn, 1) := by decide +kernel
set_option maxRecDepth 20000 in
theorem ggX0_existingTransfer_Jx4a65c_size_8abf5 : GoodIn wsX0_existingTransfer wsJx4a65c_size_8abf5 := goodIn_r _ [9, 10, 33, 34, 35] (by decide +kernel) (by decide +kernel)
set_option maxRecDepth 20000 in
theorem gX0_existingTransfer_Jx4a65c_size_8abf5 : GoodIn wsX0_existingTransfer (wsV RX0 30 RJx4a65c yJx4a65c_size_8abf5 wsJx4a65c_size_8abf5) := goodIn_app (goodIn_of _ (by decide +kernel)) ggX0_existingTransfer_Jx4a65c_size_8abf5
set_option maxRecDepth 20000 in
theorem ggX0_existingTransfer_Jx4a65c_get_915e3 : GoodIn wsX0_existingTransfer wsJx4a65c_get_915e3 := goodIn_r _ [14, 10, 15, 16, 17, 18, 19, 20, 21, 22, 23, 24, 25, 8, 26, 27, 33, 34, 35] (by decide +kernel) (by decide +kernel)
set_option maxRecDepth 20000 in
theorem gX0_existingTransfer_Jx4a65c_get_915e3 : GoodIn wsX0_existingTransfer (wsV RX0 41 RJx4a65c yJx4a65c_get_915e3 wsJx4a65c_get_915e3) := goodIn_app (goodIn_of _ (by decide +kernel)) ggX0_existingTransfer_Jx4a65c_get_915e3
theorem dX0_existingTransfer_0 : decode cX0_existingTransfer 0 = .ok (.iload_n 1, 1) := by decide +kernel
theorem dX0_existingTransfer_1 : decode cX0_existingTransfer 1 = .ok (.ifCond .lt 14, 3) := by decide +kernel
theorem dX0_existingTransfer_4 : decode cX0_existingTransfer 4 = .ok (.iload_n 1, 1) := by decide +kernel
theorem dX0_existingTransfer_5 : decode cX0_existingTransfer 5 = .ok (.aload_n 0, 1) := by decide +kernel
theorem dX0_existingTransfer_6 : decode cX0_existingTransfer 6 = .ok (.getfield 18, 3) := by decide +kernel
theorem dX0_existingTransfer_9 : decode cX0_existingTransfer 9 = .ok (.invokevirtual 30, 3) := by decide +kernel
theorem dX0_existingTransfer_12 : decode cX0_existingTransfer 12 = .ok (.if_icmp .lt 13, 3) := by decide +kernel
theorem dX0_existingTransfer_15 : decode cX0_existingTransfer 15 = .ok (.new 34, 3) := by decide +kernel
theorem dX0_existingTransfer_18 : decode cX0_existingTransfer 18 = .ok (.dup, 1) := by decide +kernel
theorem dX0_existingTransfer_19 : decode cX0_existingTransfer 19 = .ok (.ldc 45, 2) := by decide +kernel
theorem dX0_existingTransfer_21 : decode cX0_existingTransfer 21 = .ok (.invokespecial 38, 3) := by decide +kernel
theorem dX0_existingTransfer_24 : decode cX0_existingTransfer 24 = .ok (.athrow, 1) := by decide +kernel
theorem dX0_existingTransfer_25 : decode cX0_existingTransfer 25 = .ok (.aload_n 0, 1) := by decide +kernel
theorem dX0_existingTransfer_26 : decode cX0_existingTransfer 26 = .ok (.getfield 18, 3) := by decide +kernel
theorem dX0_existingTransfer_29 : decode cX0_existingTransfer 29 = .ok (.iload_n 1, 1) := by decide +kernel
theorem dX0_existingTransfer_30 : decode cX0_existingTransfer 30 = .ok (.invokevirtual 41, 3) := by decide +kernel
theorem dX0_existingTransfer_33 : decode cX0_existingTransfer 33 = .ok (.checkcast 47, 3) := by decide +kernel
theorem dX0_existingTransfer_36 : decode cX0_existingTransfer 36 = .ok (.areturn, 1) := by decide +kernel
set_option maxRecDepth 20000 in
theorem ggX0_existingGang_Jx4a65c_size_8abf5 : GoodIn wsX0_existingGang wsJx4a65c_size_8abf5 := goodIn_r _ [9, 10, 33, 34, 35] (by decide +kernel) (by decide +kernel)
set_option maxRecDepth 20000 in
theorem gX0_existingGang_Jx4a65c_size_8abf5 : GoodIn wsX0_existingGang (wsV RX0 30 RJx4a65c yJx4a65c_size_8abf5 wsJx4a65c_size_8abf5) := goodIn_app (goodIn_of _ (by decide +kernel)) ggX0_existingGang_Jx4a65c_size_8abf5
set_option maxRecDepth 20000 in
theorem ggX0_existingGang_Jx4a65c_get_915e3 : GoodIn wsX0_existingGang wsJx4a65c_get_915e3 := goodIn_r _ [14, 10, 15, 16, 17, 18, 19, 20, 21, 22, 23, 24, 25, 8, 26, 27, 33, 34, 35] (by decide +kernel) (by decide +kernel)
set_option maxRecDepth 20000 in
theorem gX0_existingGang_Jx4a65c_get_915e3 : GoodIn wsX0_existingGang (wsV RX0 41 RJx4a65c yJx4a65c_get_915e3 wsJx4a65c_get_915e3) := goodIn_app (goodIn_of _ (by decide +kernel)) ggX0_existingGang_Jx4a65c_get_915e3
theorem dX0_existingGang_0 : decode cX0_existingGang 0 = .ok (.iload_n 1, 1) := by decide +kernel
theorem dX0_existingGang_1 : decode cX0_existingGang 1 = .ok (.ifCond .lt 14, 3) := by decide +kernel
theorem dX0_existingGang_4 : decode cX0_existingGang 4 = .ok (.iload_n 1, 1) := by decide +kernel
theorem dX0_existingGang_5 : decode cX0_existingGang 5 = .ok (.aload_n 0, 1) := by decide +kernel
theorem dX0_existingGang_6 : decode cX0_existingGang 6 = .ok (.getfield 21, 3) := by decide +kernel
theorem dX0_existingGang_9 : decode cX0_existingGang 9 = .ok (.invokevirtual 30, 3) := by decide +kernel
theorem dX0_existingGang_12 : decode cX0_existingGang 12 = .ok (.if_icmp .lt 13, 3) := by decide +kernel
theorem dX0_existingGang_15 : decode cX0_existingGang 15 = .ok (.new 34, 3) := by decide +kernel
theorem dX0_existingGang_18 : decode cX0_existingGang 18 = .ok (.dup, 1) := by decide +kernel
theorem dX0_existingGang_19 : decode cX0_existingGang 19 = .ok (.ldc 49, 2) := by decide +kernel
theorem dX0_existingGang_21 : decode cX0_existingGang 21 = .ok (.invokespecial 38, 3) := by decide +kernel
theorem dX0_existingGang_24 : decode cX0_existingGang 24 = .ok (.athrow, 1) := by decide +kernel
theorem dX0_existingGang_25 : decode cX0_existingGang 25 = .ok (.aload_n 0, 1) := by decide +kernel
theorem dX0_existingGang_26 : decode cX0_existingGang 26 = .ok (.getfield 21, 3) := by decide +kernel
theorem dX0_existingGang_29 : decode cX0_existingGang 29 = .ok (.iload_n 1, 1) := by decide +kernel
theorem dX0_existingGang_30 : decode cX0_existingGang 30 = .ok (.invokevirtual 41, 3) := by decide +kernel
theorem dX0_existingGang_33 : decode cX0_existingGang 33 = .ok (.checkcast 51, 3) := by decide +kernel
theorem dX0_existingGang_36 : decode cX0_existingGang 36 = .ok (.areturn, 1) := by decide +kernel
set_option maxRecDepth 20000 in
theorem ggX0_undergo_X0_takeOnLorry : GoodIn wsX0_undergo wsX0_takeOnLorry := goodIn_r _ [9, 10, 11, 12, 13, 2, 3, 14, 15, 16, 17, 18, 19, 20, 21, 22, 23, 24, 25, 26, 27, 28, 29, 30, 31, 32, 33, 34, 35, 36, 37, 38, 39, 40, 41, 42, 43, 44, 45, 46, 47, 48, 49, 50, 51, 52, 53, 54, 55, 56, 57, 58, 59, 60, 61, 62, 63, 64, 65, 66, 67, 68, 69, 70, 71, 72, 73, 74, 75, 76, 77, 78, 79, 80, 81, 82, 83, 84, 85, 86, 87, 88, 89, 90, 324, 325, 326, 327, 328, 329, 330, 331, 332, 333, 334, 335, 336, 337, 338, 339, 340, 341, 342, 343, 320, 321, 322, 323, 344, 345, 346] (by decide +kernel) (by decide +kernel)
set_option maxRecDepth 20000 in
theorem gX0_undergo_X0_takeOnLorry : GoodIn wsX0_undergo (wsV RX0 59 RX0 yX0_takeOnLorry wsX0_takeOnLorry) := goodIn_app (goodIn_of _ (by decide +kernel)) ggX0_undergo_X0_takeOnLorry
set_option maxRecDepth 20000 in
theorem ggX0_undergo_X0_takeOnTransfer : GoodIn wsX0_undergo wsX0_takeOnTransfer := goodIn_ca (goodIn_r _ [94, 95, 96, 97, 98, 2, 3, 14, 15, 16, 17, 18, 19, 20, 99, 100, 101, 8, 102, 103, 104, 10, 105, 106, 107, 108, 109, 110, 111, 112, 113, 114, 115, 116, 117, 118, 119, 120, 121, 43, 122, 123, 124, 125, 25, 26, 31, 126, 127, 128, 129, 37, 38, 39, 40, 41, 42, 44, 45, 46, 47, 48, 49, 50, 51, 52, 53, 54, 55, 56, 57, 58, 59, 60, 61, 62, 63, 64, 65, 66, 67, 68, 69, 70, 71, 72, 73, 74, 75, 76, 77, 78, 79, 80, 81, 82, 83, 84, 85, 86, 87, 88, 89, 90, 324, 325, 326, 327, 328, 347, 348, 349, 350, 351, 352, 353, 320, 321, 322, 323, 344, 345, 346] (by decide +kernel) (by decide +kernel)) (goodIn_sub (fun _ h => List.mem_cons_of_mem _ (List.mem_append_left _ (List.mem_append_right _ h))) (by decide +kernel))
set_option maxRecDepth 20000 in
theorem gX0_undergo_X0_takeOnTransfer : GoodIn wsX0_undergo (wsV RX0 63 RX0 yX0_takeOnTransfer wsX0_takeOnTransfer) := goodIn_app (goodIn_of _ (by decide +kernel)) ggX0_undergo_X0_takeOnTransfer
set_option maxRecDepth 20000 in
theorem ggX0_undergo_X0_existingLorry : GoodIn wsX0_undergo wsX0_existingLorry := goodIn_ca (goodIn_r _ [102, 103, 104, 10, 105, 15, 16, 17, 18, 19, 20, 106, 107, 108, 109, 110, 111, 112, 113, 114, 115, 116, 117, 118, 119, 120, 121, 43, 324, 325, 326, 327, 328, 344, 345, 346] (by decide +kernel) (by decide +kernel)) (goodIn_sub (fun _ h => List.mem_cons_of_mem _ (List.mem_append_left _ (List.mem_append_right _ h))) (by decide +kernel))
set_option maxRecDepth 20000 in
theorem gX0_undergo_X0_existingLorry : GoodIn wsX0_undergo (wsV RX0 69 RX0 yX0_existingLorry wsX0_existingLorry) := goodIn_app (goodIn_of _ (by decide +kernel)) ggX0_undergo_X0_existingLorry
set_option maxRecDepth 20000 in
theorem ggX0_undergo_X3_planFor : GoodIn wsX0_undergo wsX3_planFor := goodIn_r _ [133, 27, 329, 330, 331, 332, 333, 334, 335, 336, 337, 338, 339, 340, 341, 342, 343] (by decide +kernel) (by decide +kernel)
set_option maxRecDepth 20000 in
theorem gX0_undergo_X3_planFor : GoodIn wsX0_undergo (wsV RX0 76 RX3 yX3_planFor wsX3_planFor) := goodIn_app (goodIn_of _ (by decide +kernel)) ggX0_undergo_X3_planFor
set_option maxRecDepth 20000 in
theorem ggX0_undergo_X3_comeIn : GoodIn wsX0_undergo wsX3_comeIn := goodIn_r _ [137, 28, 138, 329, 330, 331, 332, 333, 334, 335, 336, 337, 338, 339, 340, 341, 342, 343] (by decide +kernel) (by decide +kernel)
set_option maxRecDepth 20000 in
theorem gX0_undergo_X3_comeIn : GoodIn wsX0_undergo (wsV RX0 83 RX3 yX3_comeIn wsX3_comeIn) := goodIn_app (goodIn_of _ (by decide +kernel)) ggX0_undergo_X3_comeIn
set_option maxRecDepth 20000 in
theorem ggX0_undergo_X0_lorriesInYard : GoodIn wsX0_undergo wsX0_lorriesInYard := goodIn_r _ [142, 10, 105, 143, 15, 16, 17, 18, 19, 20, 106, 107, 108, 109, 110, 111, 112, 113, 114, 115, 116, 117, 118, 119, 120, 121, 43, 324, 325, 326, 327, 328, 329, 330, 331, 332, 333, 334, 335, 336, 337, 338, 339, 340, 341, 342, 343, 344, 345, 346] (by decide +kernel) (by decide +kernel)
set_option maxRecDepth 20000 in
theorem gX0_undergo_X0_lorriesInYard : GoodIn wsX0_undergo (wsV RX0 87 RX0 yX0_lorriesInYard wsX0_lorriesInYard) := goodIn_app (goodIn_of _ (by decide +kernel)) ggX0_undergo_X0_lorriesInYard
set_option maxRecDepth 20000 in
theorem ggX0_undergo_X0_sendAway : GoodIn wsX0_undergo wsX0_sendAway := goodIn_r _ [147, 4, 148, 149, 150, 13, 151, 28, 152, 153, 154, 155, 8, 156, 157, 143, 158, 159, 160, 161, 95, 162, 15, 16, 17, 18, 19, 20, 106, 107, 108, 109, 110, 111, 112, 113, 114, 115, 116, 117, 118, 119, 120, 121, 43, 163, 164, 165, 98, 166, 127, 128, 167, 168, 169, 170, 171, 129, 172, 173, 324, 325, 326, 327, 328, 329, 330, 331, 332, 333, 334, 335, 336, 337, 338, 339, 340, 341, 342, 343, 344, 345, 346, 347, 348, 349, 350, 351, 352, 353] (by decide +kernel) (by decide +kernel)
set_option maxRecDepth 20000 in
theorem gX0_undergo_X0_sendAway : GoodIn wsX0_undergo (wsV RX0 90 RX0 yX0_sendAway wsX0_sendAway) := goodIn_app (goodIn_of _ (by decide +kernel)) ggX0_undergo_X0_sendAway
set_option maxRecDepth 20000 in
theorem ggX0_undergo_X0_takeOnGang : GoodIn wsX0_undergo wsX0_takeOnGang := goodIn_r _ [177, 178, 179, 180, 181, 2, 3, 14, 15, 16, 17, 18, 19, 20, 182, 183, 184, 185, 25, 26, 186, 187, 188, 189, 37, 38, 39, 40, 41, 42, 43, 44, 45, 46, 47, 48, 49, 50, 51, 52, 53, 54, 55, 56, 57, 58, 59, 60, 61, 62, 63, 64, 65, 66, 67, 68, 69, 70, 71, 72, 73, 74, 75, 76, 77, 78, 79, 80, 81, 82, 83, 84, 85, 86, 87, 88, 89, 90, 324, 325, 326, 327, 328, 354, 355, 356, 357, 320, 321, 322, 323, 344, 345, 346] (by decide +kernel) (by decide +kernel)
set_option maxRecDepth 20000 in
theorem gX0_undergo_X0_takeOnGang : GoodIn wsX0_undergo (wsV RX0 94 RX0 yX0_takeOnGang wsX0_takeOnGang) := goodIn_app (goodIn_of _ (by decide +kernel)) ggX0_undergo_X0_takeOnGang
set_option maxRecDepth 20000 in
theorem ggX0_undergo_X0_existingGang : GoodIn wsX0_undergo wsX0_existingGang := goodIn_ca (goodIn_r _ [193, 103, 104, 178, 194, 15, 16, 17, 18, 19, 20, 106, 107, 108, 109, 110, 111, 112, 113, 114, 115, 116, 117, 118, 119, 120, 121, 43, 324, 325, 326, 327, 328, 344, 345, 346] (by decide +kernel) (by decide +kernel)) (goodIn_sub (fun _ h => List.mem_cons_of_mem _ (List.mem_append_left _ (List.mem_append_right _ h))) (by decide +kernel))
set_option maxRecDepth 20000 in
theorem gX0_undergo_X0_existingGang : GoodIn wsX0_undergo (wsV RX0 97 RX0 yX0_existingGang wsX0_existingGang) := goodIn_app (goodIn_of _ (by decide +kernel)) ggX0_undergo_X0_existingGang
set_option maxRecDepth 20000 in
theorem ggX0_undergo_X2_moveTo : GoodIn wsX0_undergo wsX2_moveTo := goodIn_r _ [198, 186, 354, 355, 356, 357] (by decide +kernel) (by decide +kernel)
set_option maxRecDepth 20000 in
theorem gX0_undergo_X2_moveTo : GoodIn wsX0_undergo (wsV RX0 101 RX2 yX2_moveTo wsX2_moveTo) := goodIn_app (goodIn_of _ (by decide +kernel)) ggX0_undergo_X2_moveTo
set_option maxRecDepth 20000 in
theorem ggX0_undergo_X0_passMinutes : GoodIn wsX0_undergo wsX0_passMinutes := goodIn_ca (goodIn_r _ [202, 203, 204, 205, 8, 206, 157, 143, 207, 208, 209, 210, 10, 105, 15, 16, 17, 18, 19, 20, 106, 107, 108, 109, 110, 111, 112, 113, 114, 115, 116, 117, 118, 119, 120, 121, 43, 211, 212, 213, 13, 214, 28, 27, 215, 216, 217, 218, 219, 220, 221, 222, 223, 138, 33, 224, 225, 226, 227, 228, 229, 230, 231, 178, 194, 4, 232, 233, 234, 235, 181, 236, 186, 188, 189, 237, 238, 239, 240, 95, 162, 241, 242, 163, 164, 165, 98, 166, 127, 128, 243, 244, 245, 246, 247, 126, 129, 172, 248, 85, 59, 86, 249, 250, 251, 252, 253, 254, 255, 256, 173, 257, 258, 259, 260, 158, 159, 160, 161, 167, 168, 169, 170, 171, 148, 149, 150, 151, 152, 261, 262, 263, 264, 265, 266, 267, 268, 269, 270, 271, 272, 273, 274, 275, 276, 277, 278, 279, 280, 281, 282, 283, 284, 285, 286, 287, 288, 289, 290, 291, 292, 293, 294, 295, 296, 35, 297, 34, 298, 299, 300, 301, 302, 303, 304, 305, 306, 307, 308, 309, 310, 29, 311, 32, 153, 154, 155, 156, 312, 313, 314, 315, 316, 317, 318, 319, 324, 325, 326, 327, 328, 329, 330, 331, 332, 333, 334, 335, 336, 337, 338, 339, 340, 341, 342, 343, 344, 345, 346, 354, 355, 356, 357, 347, 348, 349, 350, 351, 352, 353] (by decide +kernel) (by decide +kernel)) (goodIn_sub (fun _ h => List.mem_cons_of_mem _ (List.mem_append_right _ h)) (by decide +kernel))
set_option maxRecDepth 20000 in
theorem gX0_undergo_X0_passMinutes : GoodIn wsX0_undergo (wsV RX0 104 RX0 yX0_passMinutes wsX0_passMinutes) := goodIn_app (goodIn_of _ (by decide +kernel)) ggX0_undergo_X0_passMinutes
theorem dX0_undergo_0 : decode cX0_undergo 0 = .ok (.aload_n 1, 1) := by decide +kernel
theorem dX0_undergo_1 : decode cX0_undergo 1 = .ok (.getfield 53, 3) := by decide +kernel
theorem dX0_undergo_4 : decode cX0_undergo 4 = .ok (.tableswitch 140 0 7 #[48, 54, 60, 76, 96, 109, 115, 131], 48) := by decide +kernel
theorem dX0_undergo_52 : decode cX0_undergo 52 = .ok (.aload_n 0, 1) := by decide +kernel
theorem dX0_undergo_53 : decode cX0_undergo 53 = .ok (.aload_n 1, 1) := by decide +kernel
theorem dX0_undergo_54 : decode cX0_undergo 54 = .ok (.invokevirtual 59, 3) := by decide +kernel
theorem dX0_undergo_57 : decode cX0_undergo 57 = .ok (.ireturn, 1) := by decide +kernel
theorem dX0_undergo_58 : decode cX0_undergo 58 = .ok (.aload_n 0, 1) := by decide +kernel
theorem dX0_undergo_59 : decode cX0_undergo 59 = .ok (.aload_n 1, 1) := by decide +kernel
theorem dX0_undergo_60 : decode cX0_undergo 60 = .ok (.invokevirtual 63, 3) := by decide +kernel
theorem dX0_undergo_63 : decode cX0_undergo 63 = .ok (.ireturn, 1) := by decide +kernel
theorem dX0_undergo_64 : decode cX0_undergo 64 = .ok (.aload_n 0, 1) := by decide +kernel
theorem dX0_undergo_65 : decode cX0_undergo 65 = .ok (.aload_n 1, 1) := by decide +kernel
theorem dX0_undergo_66 : decode cX0_undergo 66 = .ok (.getfield 66, 3) := by decide +kernel
theorem dX0_undergo_69 : decode cX0_undergo 69 = .ok (.invokevirtual 69, 3) := by decide +kernel
theorem dX0_undergo_72 : decode cX0_undergo 72 = .ok (.aload_n 1, 1) := by decide +kernel
theorem dX0_undergo_73 : decode cX0_undergo 73 = .ok (.getfield 73, 3) := by decide +kernel
theorem dX0_undergo_76 : decode cX0_undergo 76 = .ok (.invokevirtual 76, 3) := by decide +kernel
theorem dX0_undergo_79 : decode cX0_undergo 79 = .ok (.ireturn, 1) := by decide +kernel
theorem dX0_undergo_80 : decode cX0_undergo 80 = .ok (.aload_n 0, 1) := by decide +kernel
theorem dX0_undergo_81 : decode cX0_undergo 81 = .ok (.aload_n 1, 1) := by decide +kernel
theorem dX0_undergo_82 : decode cX0_undergo 82 = .ok (.getfield 66, 3) := by decide +kernel
theorem dX0_undergo_85 : decode cX0_undergo 85 = .ok (.invokevirtual 69, 3) := by decide +kernel
theorem dX0_undergo_88 : decode cX0_undergo 88 = .ok (.aload_n 0, 1) := by decide +kernel
theorem dX0_undergo_89 : decode cX0_undergo 89 = .ok (.getfield 80, 3) := by decide +kernel
theorem dX0_undergo_92 : decode cX0_undergo 92 = .ok (.invokevirtual 83, 3) := by decide +kernel
theorem dX0_undergo_95 : decode cX0_undergo 95 = .ok (.aload_n 0, 1) := by decide +kernel
theorem dX0_undergo_96 : decode cX0_undergo 96 = .ok (.invokevirtual 87, 3) := by decide +kernel
theorem dX0_undergo_99 : decode cX0_undergo 99 = .ok (.ireturn, 1) := by decide +kernel
theorem dX0_undergo_100 : decode cX0_undergo 100 = .ok (.aload_n 0, 1) := by decide +kernel
theorem dX0_undergo_101 : decode cX0_undergo 101 = .ok (.aload_n 0, 1) := by decide +kernel
theorem dX0_undergo_102 : decode cX0_undergo 102 = .ok (.aload_n 1, 1) := by decide +kernel
theorem dX0_undergo_103 : decode cX0_undergo 103 = .ok (.getfield 66, 3) := by decide +kernel
theorem dX0_undergo_106 : decode cX0_undergo 106 = .ok (.invokevirtual 69, 3) := by decide +kernel
theorem dX0_undergo_109 : decode cX0_undergo 109 = .ok (.invokevirtual 90, 3) := by decide +kernel
theorem dX0_undergo_112 : decode cX0_undergo 112 = .ok (.ireturn, 1) := by decide +kernel
theorem dX0_undergo_113 : decode cX0_undergo 113 = .ok (.aload_n 0, 1) := by decide +kernel
theorem dX0_undergo_114 : decode cX0_undergo 114 = .ok (.aload_n 1, 1) := by decide +kernel
theorem dX0_undergo_115 : decode cX0_undergo 115 = .ok (.invokevirtual 94, 3) := by decide +kernel
theorem dX0_undergo_118 : decode cX0_undergo 118 = .ok (.ireturn, 1) := by decide +kernel
theorem dX0_undergo_119 : decode cX0_undergo 119 = .ok (.aload_n 0, 1) := by decide +kernel
theorem dX0_undergo_120 : decode cX0_undergo 120 = .ok (.aload_n 1, 1) := by decide +kernel
theorem dX0_undergo_121 : decode cX0_undergo 121 = .ok (.getfield 66, 3) := by decide +kernel
theorem dX0_undergo_124 : decode cX0_undergo 124 = .ok (.invokevirtual 97, 3) := by decide +kernel
theorem dX0_undergo_127 : decode cX0_undergo 127 = .ok (.aload_n 1, 1) := by decide +kernel
theorem dX0_undergo_128 : decode cX0_undergo 128 = .ok (.getfield 73, 3) := by decide +kernel
theorem dX0_undergo_131 : decode cX0_undergo 131 = .ok (.invokevirtual 101, 3) := by decide +kernel
theorem dX0_undergo_134 : decode cX0_undergo 134 = .ok (.ireturn, 1) := by decide +kernel
theorem dX0_undergo_135 : decode cX0_undergo 135 = .ok (.aload_n 0, 1) := by decide +kernel
theorem dX0_undergo_136 : decode cX0_undergo 136 = .ok (.aload_n 1, 1) := by decide +kernel
theorem dX0_undergo_137 : decode cX0_undergo 137 = .ok (.getfield 66, 3) := by decide +kernel
theorem dX0_undergo_140 : decode cX0_undergo 140 = .ok (.invokevirtual 104, 3) := by decide +kernel
theorem dX0_undergo_143 : decode cX0_undergo 143 = .ok (.ireturn, 1) := by decide +kernel
theorem dX0_undergo_144 : decode cX0_undergo 144 = .ok (.iconst (-1), 1) := by decide +kernel
theorem dX0_undergo_145 : decode cX0_undergo 145 = .ok (.ireturn, 1) := by decide +kernel
set_option maxRecDepth 20000 in
theorem ggX0_takeOnLorry_Jx4a65c_size_8abf5 : GoodIn wsX0_takeOnLorry wsJx4a65c_size_8abf5 := goodIn_r _ [12, 13, 108, 109, 110] (by decide +kernel) (by decide +kernel)
set_option maxRecDepth 20000 in
theorem gX0_takeOnLorry_Jx4a65c_size_8abf5 : GoodIn wsX0_takeOnLorry (wsV RX0 30 RJx4a65c yJx4a65c_size_8abf5 wsJx4a65c_size_8abf5) := goodIn_app (goodIn_of _ (by decide +kernel)) ggX0_takeOnLorry_Jx4a65c_size_8abf5
set_option maxRecDepth 20000 in
theorem ggX0_takeOnLorry_X3_init : GoodIn wsX0_takeOnLorry wsX3_init := goodIn_r _ [16, 17, 18, 19, 20, 21, 22, 23, 24, 25, 26, 27, 28, 29, 89, 90, 91, 92, 93, 94, 95, 96, 97, 98, 99, 100, 101, 102, 103] (by decide +kernel) (by decide +kernel)
set_option maxRecDepth 20000 in
theorem gX0_takeOnLorry_X3_init : GoodIn wsX0_takeOnLorry (wsX3_init) := ggX0_takeOnLorry_X3_init
set_option maxRecDepth 20000 in
theorem ggX0_takeOnLorry_Jx4a65c_add_9ea2d : GoodIn wsX0_takeOnLorry wsJx4a65c_add_9ea2d := goodIn_r _ [33, 34, 35, 36, 13, 37, 38, 39, 11, 40, 41, 42, 43, 44, 45, 46, 47, 48, 49, 50, 51, 52, 53, 54, 55, 56, 57, 58, 59, 60, 61, 62, 63, 64, 65, 66, 67, 68, 69, 70, 71, 72, 73, 74, 75, 76, 77, 78, 79, 80, 81, 82, 83, 108, 109, 110] (by decide +kernel) (by decide +kernel)
set_option maxRecDepth 20000 in
theorem gX0_takeOnLorry_Jx4a65c_add_9ea2d : GoodIn wsX0_takeOnLorry (wsV RX0 113 RJx4a65c yJx4a65c_add_9ea2d wsJx4a65c_add_9ea2d) := goodIn_app (goodIn_of _ (by decide +kernel)) ggX0_takeOnLorry_Jx4a65c_add_9ea2d
theorem dX0_takeOnLorry_0 : decode cX0_takeOnLorry 0 = .ok (.aload_n 0, 1) := by decide +kernel
theorem dX0_takeOnLorry_1 : decode cX0_takeOnLorry 1 = .ok (.getfield 12, 3) := by decide +kernel
theorem dX0_takeOnLorry_4 : decode cX0_takeOnLorry 4 = .ok (.invokevirtual 30, 3) := by decide +kernel
theorem dX0_takeOnLorry_7 : decode cX0_takeOnLorry 7 = .ok (.istore_n 2, 1) := by decide +kernel
theorem dX0_takeOnLorry_8 : decode cX0_takeOnLorry 8 = .ok (.aload_n 0, 1) := by decide +kernel
theorem dX0_takeOnLorry_9 : decode cX0_takeOnLorry 9 = .ok (.getfield 12, 3) := by decide +kernel
theorem dX0_takeOnLorry_12 : decode cX0_takeOnLorry 12 = .ok (.new 24, 3) := by decide +kernel
theorem dX0_takeOnLorry_15 : decode cX0_takeOnLorry 15 = .ok (.dup, 1) := by decide +kernel
theorem dX0_takeOnLorry_16 : decode cX0_takeOnLorry 16 = .ok (.iload_n 2, 1) := by decide +kernel
theorem dX0_takeOnLorry_17 : decode cX0_takeOnLorry 17 = .ok (.aload_n 1, 1) := by decide +kernel
theorem dX0_takeOnLorry_18 : decode cX0_takeOnLorry 18 = .ok (.getfield 66, 3) := by decide +kernel
theorem dX0_takeOnLorry_21 : decode cX0_takeOnLorry 21 = .ok (.iconst 1, 1) := by decide +kernel
theorem dX0_takeOnLorry_22 : decode cX0_takeOnLorry 22 = .ok (.if_icmp .ne 7, 3) := by decide +kernel
theorem dX0_takeOnLorry_25 : decode cX0_takeOnLorry 25 = .ok (.iconst 1, 1) := by decide +kernel
theorem dX0_takeOnLorry_26 : decode cX0_takeOnLorry 26 = .ok (.goto 4, 3) := by decide +kernel
theorem dX0_takeOnLorry_29 : decode cX0_takeOnLorry 29 = .ok (.iconst 0, 1) := by decide +kernel
theorem dX0_takeOnLorry_30 : decode cX0_takeOnLorry 30 = .ok (.aload_n 1, 1) := by decide +kernel
theorem dX0_takeOnLorry_31 : decode cX0_takeOnLorry 31 = .ok (.getfield 73, 3) := by decide +kernel
theorem dX0_takeOnLorry_34 : decode cX0_takeOnLorry 34 = .ok (.aload_n 1, 1) := by decide +kernel
theorem dX0_takeOnLorry_35 : decode cX0_takeOnLorry 35 = .ok (.getfield 107, 3) := by decide +kernel
theorem dX0_takeOnLorry_38 : decode cX0_takeOnLorry 38 = .ok (.invokespecial 110, 3) := by decide +kernel
theorem dX0_takeOnLorry_41 : decode cX0_takeOnLorry 41 = .ok (.invokevirtual 113, 3) := by decide +kernel
theorem dX0_takeOnLorry_44 : decode cX0_takeOnLorry 44 = .ok (.pop, 1) := by decide +kernel
theorem dX0_takeOnLorry_45 : decode cX0_takeOnLorry 45 = .ok (.iload_n 2, 1) := by decide +kernel
theorem dX0_takeOnLorry_46 : decode cX0_takeOnLorry 46 = .ok (.ireturn, 1) := by decide +kernel
set_option maxRecDepth 20000 in
theorem ggX0_takeOnTransfer_Jx4a65c_size_8abf5 : GoodIn wsX0_takeOnTransfer wsJx4a65c_size_8abf5 := goodIn_r _ [12, 13, 120, 121, 122] (by decide +kernel) (by decide +kernel)
set_option maxRecDepth 20000 in
theorem gX0_takeOnTransfer_Jx4a65c_size_8abf5 : GoodIn wsX0_takeOnTransfer (wsV RX0 30 RJx4a65c yJx4a65c_size_8abf5 wsJx4a65c_size_8abf5) := goodIn_app (goodIn_of _ (by decide +kernel)) ggX0_takeOnTransfer_Jx4a65c_size_8abf5
set_option maxRecDepth 20000 in
theorem ggX0_takeOnTransfer_X0_existingLorry : GoodIn wsX0_takeOnTransfer wsX0_existingLorry := goodIn_ca (goodIn_r _ [18, 19, 20, 21, 22, 8, 9, 10, 11, 12, 13, 23, 24, 25, 26, 27, 28, 29, 30, 31, 32, 33, 34, 35, 36, 37, 38, 39, 104, 105, 106, 107, 108, 120, 121, 122] (by decide +kernel) (by decide +kernel)) (goodIn_sub (fun _ h => List.mem_cons_of_mem _ (List.mem_append_right _ h)) (by decide +kernel))
set_option maxRecDepth 20000 in
theorem gX0_takeOnTransfer_X0_existingLorry : GoodIn wsX0_takeOnTransfer (wsV RX0 69 RX0 yX0_existingLorry wsX0_existingLorry) := goodIn_app (goodIn_of _ (by decide +kernel)) ggX0_takeOnTransfer_X0_existingLorry
set_option maxRecDepth 20000 in
theorem ggX0_takeOnTransfer_X5_init : GoodIn wsX0_takeOnTransfer wsX5_init := goodIn_r _ [42, 43, 44, 45, 46, 47, 48, 49, 50, 109, 110, 111, 112, 113, 114, 115] (by decide +kernel) (by decide +kernel)
set_option maxRecDepth 20000 in
theorem gX0_takeOnTransfer_X5_init : GoodIn wsX0_takeOnTransfer (wsX5_init) := ggX0_takeOnTransfer_X5_init
set_option maxRecDepth 20000 in
theorem ggX0_takeOnTransfer_Jx4a65c_add_9ea2d : GoodIn wsX0_takeOnTransfer wsJx4a65c_add_9ea2d := goodIn_r _ [54, 55, 56, 39, 13, 57, 58, 59, 11, 60, 61, 62, 63, 64, 65, 66, 67, 68, 69, 70, 71, 72, 73, 74, 75, 76, 77, 78, 79, 80, 81, 82, 83, 84, 85, 86, 87, 88, 89, 90, 91, 92, 93, 94, 95, 96, 97, 98, 99, 100, 101, 102, 103, 120, 121, 122] (by decide +kernel) (by decide +kernel)
set_option maxRecDepth 20000 in
theorem gX0_takeOnTransfer_Jx4a65c_add_9ea2d : GoodIn wsX0_takeOnTransfer (wsV RX0 113 RJx4a65c yJx4a65c_add_9ea2d wsJx4a65c_add_9ea2d) := goodIn_app (goodIn_of _ (by decide +kernel)) ggX0_takeOnTransfer_Jx4a65c_add_9ea2d
theorem dX0_takeOnTransfer_0 : decode cX0_takeOnTransfer 0 = .ok (.aload_n 0, 1) := by decide +kernel
theorem dX0_takeOnTransfer_1 : decode cX0_takeOnTransfer 1 = .ok (.getfield 18, 3) := by decide +kernel
theorem dX0_takeOnTransfer_4 : decode cX0_takeOnTransfer 4 = .ok (.invokevirtual 30, 3) := by decide +kernel
theorem dX0_takeOnTransfer_7 : decode cX0_takeOnTransfer 7 = .ok (.istore_n 2, 1) := by decide +kernel
theorem dX0_takeOnTransfer_8 : decode cX0_takeOnTransfer 8 = .ok (.aload_n 0, 1) := by decide +kernel
theorem dX0_takeOnTransfer_9 : decode cX0_takeOnTransfer 9 = .ok (.getfield 18, 3) := by decide +kernel
theorem dX0_takeOnTransfer_12 : decode cX0_takeOnTransfer 12 = .ok (.new 47, 3) := by decide +kernel
theorem dX0_takeOnTransfer_15 : decode cX0_takeOnTransfer 15 = .ok (.dup, 1) := by decide +kernel
theorem dX0_takeOnTransfer_16 : decode cX0_takeOnTransfer 16 = .ok (.aload_n 0, 1) := by decide +kernel
theorem dX0_takeOnTransfer_17 : decode cX0_takeOnTransfer 17 = .ok (.aload_n 1, 1) := by decide +kernel
theorem dX0_takeOnTransfer_18 : decode cX0_takeOnTransfer 18 = .ok (.getfield 66, 3) := by decide +kernel
theorem dX0_takeOnTransfer_21 : decode cX0_takeOnTransfer 21 = .ok (.invokevirtual 69, 3) := by decide +kernel
theorem dX0_takeOnTransfer_24 : decode cX0_takeOnTransfer 24 = .ok (.aload_n 0, 1) := by decide +kernel
theorem dX0_takeOnTransfer_25 : decode cX0_takeOnTransfer 25 = .ok (.aload_n 1, 1) := by decide +kernel
theorem dX0_takeOnTransfer_26 : decode cX0_takeOnTransfer 26 = .ok (.getfield 73, 3) := by decide +kernel
theorem dX0_takeOnTransfer_29 : decode cX0_takeOnTransfer 29 = .ok (.invokevirtual 69, 3) := by decide +kernel
theorem dX0_takeOnTransfer_32 : decode cX0_takeOnTransfer 32 = .ok (.aload_n 1, 1) := by decide +kernel
theorem dX0_takeOnTransfer_33 : decode cX0_takeOnTransfer 33 = .ok (.getfield 107, 3) := by decide +kernel
theorem dX0_takeOnTransfer_36 : decode cX0_takeOnTransfer 36 = .ok (.invokespecial 117, 3) := by decide +kernel
theorem dX0_takeOnTransfer_39 : decode cX0_takeOnTransfer 39 = .ok (.invokevirtual 113, 3) := by decide +kernel
theorem dX0_takeOnTransfer_42 : decode cX0_takeOnTransfer 42 = .ok (.pop, 1) := by decide +kernel
theorem dX0_takeOnTransfer_43 : decode cX0_takeOnTransfer 43 = .ok (.iload_n 2, 1) := by decide +kernel
theorem dX0_takeOnTransfer_44 : decode cX0_takeOnTransfer 44 = .ok (.ireturn, 1) := by decide +kernel
set_option maxRecDepth 20000 in
theorem ggX0_takeOnGang_Jx4a65c_size_8abf5 : GoodIn wsX0_takeOnGang wsJx4a65c_size_8abf5 := goodIn_r _ [12, 13, 91, 92, 93] (by decide +kernel) (by decide +kernel)
set_option maxRecDepth 20000 in
theorem gX0_takeOnGang_Jx4a65c_size_8abf5 : GoodIn wsX0_takeOnGang (wsV RX0 30 RJx4a65c yJx4a65c_size_8abf5 wsJx4a65c_size_8abf5) := goodIn_app (goodIn_of _ (by decide +kernel)) ggX0_takeOnGang_Jx4a65c_size_8abf5
set_option maxRecDepth 20000 in
theorem ggX0_takeOnGang_X2_init : GoodIn wsX0_takeOnGang wsX2_init := goodIn_r _ [16, 17, 18, 19, 20, 21, 22, 23, 83, 84, 85, 86] (by decide +kernel) (by decide +kernel)
set_option maxRecDepth 20000 in
theorem gX0_takeOnGang_X2_init : GoodIn wsX0_takeOnGang (wsX2_init) := ggX0_takeOnGang_X2_init
set_option maxRecDepth 20000 in
theorem ggX0_takeOnGang_Jx4a65c_add_9ea2d : GoodIn wsX0_takeOnGang wsJx4a65c_add_9ea2d := goodIn_r _ [27, 28, 29, 30, 13, 31, 32, 33, 11, 34, 35, 36, 37, 38, 39, 40, 41, 42, 43, 44, 45, 46, 47, 48, 49, 50, 51, 52, 53, 54, 55, 56, 57, 58, 59, 60, 61, 62, 63, 64, 65, 66, 67, 68, 69, 70, 71, 72, 73, 74, 75, 76, 77, 91, 92, 93] (by decide +kernel) (by decide +kernel)
set_option maxRecDepth 20000 in
theorem gX0_takeOnGang_Jx4a65c_add_9ea2d : GoodIn wsX0_takeOnGang (wsV RX0 113 RJx4a65c yJx4a65c_add_9ea2d wsJx4a65c_add_9ea2d) := goodIn_app (goodIn_of _ (by decide +kernel)) ggX0_takeOnGang_Jx4a65c_add_9ea2d
theorem dX0_takeOnGang_0 : decode cX0_takeOnGang 0 = .ok (.aload_n 0, 1) := by decide +kernel
theorem dX0_takeOnGang_1 : decode cX0_takeOnGang 1 = .ok (.getfield 21, 3) := by decide +kernel
theorem dX0_takeOnGang_4 : decode cX0_takeOnGang 4 = .ok (.invokevirtual 30, 3) := by decide +kernel
theorem dX0_takeOnGang_7 : decode cX0_takeOnGang 7 = .ok (.istore_n 2, 1) := by decide +kernel
theorem dX0_takeOnGang_8 : decode cX0_takeOnGang 8 = .ok (.aload_n 0, 1) := by decide +kernel
theorem dX0_takeOnGang_9 : decode cX0_takeOnGang 9 = .ok (.getfield 21, 3) := by decide +kernel
theorem dX0_takeOnGang_12 : decode cX0_takeOnGang 12 = .ok (.new 51, 3) := by decide +kernel
theorem dX0_takeOnGang_15 : decode cX0_takeOnGang 15 = .ok (.dup, 1) := by decide +kernel
theorem dX0_takeOnGang_16 : decode cX0_takeOnGang 16 = .ok (.aload_n 1, 1) := by decide +kernel
theorem dX0_takeOnGang_17 : decode cX0_takeOnGang 17 = .ok (.getfield 66, 3) := by decide +kernel
theorem dX0_takeOnGang_20 : decode cX0_takeOnGang 20 = .ok (.aload_n 1, 1) := by decide +kernel
theorem dX0_takeOnGang_21 : decode cX0_takeOnGang 21 = .ok (.getfield 73, 3) := by decide +kernel
theorem dX0_takeOnGang_24 : decode cX0_takeOnGang 24 = .ok (.aload_n 1, 1) := by decide +kernel
theorem dX0_takeOnGang_25 : decode cX0_takeOnGang 25 = .ok (.getfield 107, 3) := by decide +kernel
theorem dX0_takeOnGang_28 : decode cX0_takeOnGang 28 = .ok (.invokespecial 120, 3) := by decide +kernel
theorem dX0_takeOnGang_31 : decode cX0_takeOnGang 31 = .ok (.invokevirtual 113, 3) := by decide +kernel
theorem dX0_takeOnGang_34 : decode cX0_takeOnGang 34 = .ok (.pop, 1) := by decide +kernel
theorem dX0_takeOnGang_35 : decode cX0_takeOnGang 35 = .ok (.iload_n 2, 1) := by decide +kernel
theorem dX0_takeOnGang_36 : decode cX0_takeOnGang 36 = .ok (.ireturn, 1) := by decide +kernel
set_option maxRecDepth 20000 in
theorem ggX0_sendAway_X3_goAway : GoodIn wsX0_sendAway wsX3_goAway := goodIn_r _ [6, 7, 8, 65, 66, 67, 68, 69, 70, 71, 72, 73, 74, 75, 76, 77, 78, 79] (by decide +kernel) (by decide +kernel)
set_option maxRecDepth 20000 in
theorem gX0_sendAway_X3_goAway : GoodIn wsX0_sendAway (wsV RX0 123 RX3 yX3_goAway wsX3_goAway) := goodIn_app (goodIn_of _ (by decide +kernel)) ggX0_sendAway_X3_goAway
set_option maxRecDepth 20000 in
theorem ggX0_sendAway_X0_freeDoors : GoodIn wsX0_sendAway wsX0_freeDoors := goodIn_r _ [13, 14, 15, 60, 61, 62, 63, 64, 65, 66, 67, 68, 69, 70, 71, 72, 73, 74, 75, 76, 77, 78, 79] (by decide +kernel) (by decide +kernel)
set_option maxRecDepth 20000 in
theorem gX0_sendAway_X0_freeDoors : GoodIn wsX0_sendAway (wsV RX0 126 RX0 yX0_freeDoors wsX0_freeDoors) := goodIn_app (goodIn_of _ (by decide +kernel)) ggX0_sendAway_X0_freeDoors
set_option maxRecDepth 20000 in
theorem ggX0_sendAway_X0_openUnits : GoodIn wsX0_sendAway wsX0_openUnits := goodIn_r _ [19, 20, 21, 22, 23, 24, 25, 26, 27, 28, 29, 30, 31, 32, 33, 34, 35, 36, 37, 38, 39, 40, 41, 42, 43, 44, 45, 46, 47, 48, 49, 50, 51, 52, 53, 54, 55, 56, 57, 58, 59, 60, 61, 62, 63, 64, 80, 81, 82, 83, 84, 85, 86, 87, 88, 89, 65, 66, 67, 68, 69, 70, 71, 72, 73, 74, 75, 76, 77, 78, 79] (by decide +kernel) (by decide +kernel)
set_option maxRecDepth 20000 in
theorem gX0_sendAway_X0_openUnits : GoodIn wsX0_sendAway (wsV RX0 129 RX0 yX0_openUnits wsX0_openUnits) := goodIn_app (goodIn_of _ (by decide +kernel)) ggX0_sendAway_X0_openUnits
theorem dX0_sendAway_0 : decode cX0_sendAway 0 = .ok (.aload_n 1, 1) := by decide +kernel
theorem dX0_sendAway_1 : decode cX0_sendAway 1 = .ok (.aload_n 0, 1) := by decide +kernel
theorem dX0_sendAway_2 : decode cX0_sendAway 2 = .ok (.getfield 80, 3) := by decide +kernel
theorem dX0_sendAway_5 : decode cX0_sendAway 5 = .ok (.invokevirtual 123, 3) := by decide +kernel
theorem dX0_sendAway_8 : decode cX0_sendAway 8 = .ok (.aload_n 0, 1) := by decide +kernel
theorem dX0_sendAway_9 : decode cX0_sendAway 9 = .ok (.invokevirtual 126, 3) := by decide +kernel
theorem dX0_sendAway_12 : decode cX0_sendAway 12 = .ok (.aload_n 0, 1) := by decide +kernel
theorem dX0_sendAway_13 : decode cX0_sendAway 13 = .ok (.aload_n 1, 1) := by decide +kernel
theorem dX0_sendAway_14 : decode cX0_sendAway 14 = .ok (.invokevirtual 129, 3) := by decide +kernel
theorem dX0_sendAway_17 : decode cX0_sendAway 17 = .ok (.ireturn, 1) := by decide +kernel
set_option maxRecDepth 20000 in
theorem ggX0_passMinutes_X0_fillDoors : GoodIn wsX0_passMinutes wsX0_fillDoors := goodIn_r _ [5, 6, 7, 8, 9, 10, 4, 11, 12, 13, 14, 15, 16, 17, 18, 19, 20, 21, 22, 23, 24, 25, 26, 27, 28, 29, 30, 31, 32, 33, 34, 35, 36, 37, 38, 39, 40, 41, 42, 43, 44, 45, 46, 47, 48, 49, 50, 51, 52, 53, 54, 196, 197, 198, 199, 200, 201, 202, 203, 204, 205, 206, 207, 208, 209, 210, 211, 212, 213, 214, 215, 216, 217, 218] (by decide +kernel) (by decide +kernel)
set_option maxRecDepth 20000 in
theorem gX0_passMinutes_X0_fillDoors : GoodIn wsX0_passMinutes (wsV RX0 132 RX0 yX0_fillDoors wsX0_fillDoors) := goodIn_app (goodIn_of _ (by decide +kernel)) ggX0_passMinutes_X0_fillDoors
set_option maxRecDepth 20000 in
theorem ggX0_passMinutes_X0_handleUnits : GoodIn wsX0_passMinutes wsX0_handleUnits := goodIn_ca (goodIn_r _ [58, 6, 59, 60, 61, 4, 62, 63, 64, 65, 66, 14, 15, 16, 17, 18, 19, 20, 21, 22, 23, 24, 25, 26, 27, 28, 29, 30, 31, 32, 33, 34, 35, 36, 67, 68, 69, 70, 71, 72, 73, 74, 75, 76, 77, 78, 79, 80, 81, 82, 83, 84, 85, 86, 87, 88, 89, 90, 91, 92, 93, 94, 95, 96, 97, 98, 99, 100, 101, 102, 103, 104, 105, 106, 107, 108, 109, 110, 196, 197, 198, 199, 200, 219, 220, 221, 222, 216, 217, 218, 201, 202, 203, 204, 205, 206, 207, 208, 209, 210, 211, 212, 213, 214, 215, 223, 224, 225, 226, 227, 228, 229] (by decide +kernel) (by decide +kernel)) (goodIn_sub (fun _ h => List.mem_cons_of_mem _ (List.mem_append_right _ h)) (by decide +kernel))
set_option maxRecDepth 20000 in
theorem gX0_passMinutes_X0_handleUnits : GoodIn wsX0_passMinutes (wsV RX0 135 RX0 yX0_handleUnits wsX0_handleUnits) := goodIn_app (goodIn_of _ (by decide +kernel)) ggX0_passMinutes_X0_handleUnits
set_option maxRecDepth 20000 in
theorem ggX0_passMinutes_X0_letLeave : GoodIn wsX0_passMinutes wsX0_letLeave := goodIn_r _ [114, 6, 65, 115, 116, 117, 4, 118, 79, 80, 14, 15, 16, 17, 18, 19, 20, 21, 22, 23, 24, 25, 26, 27, 28, 29, 30, 31, 32, 33, 34, 35, 36, 83, 84, 85, 86, 87, 88, 89, 119, 120, 121, 122, 123, 96, 97, 110, 124, 125, 126, 40, 127, 42, 128, 196, 197, 198, 199, 200, 216, 217, 218, 223, 224, 225, 226, 227, 228, 229, 201, 202, 203, 204, 205, 206, 207, 208, 209, 210, 211, 212, 213, 214, 215] (by decide +kernel) (by decide +kernel)
set_option maxRecDepth 20000 in
theorem gX0_passMinutes_X0_letLeave : GoodIn wsX0_passMinutes (wsV RX0 138 RX0 yX0_letLeave wsX0_letLeave) := goodIn_app (goodIn_of _ (by decide +kernel)) ggX0_passMinutes_X0_letLeave
set_option maxRecDepth 20000 in
theorem ggX0_passMinutes_X0_lookAtDoors : GoodIn wsX0_passMinutes wsX0_lookAtDoors := goodIn_r _ [132, 6, 133, 59, 60, 61, 4, 62, 63, 64, 65, 66, 14, 15, 16, 17, 18, 19, 20, 21, 22, 23, 24, 25, 26, 27, 28, 29, 30, 31, 32, 33, 34, 35, 36, 67, 68, 69, 70, 71, 72, 73, 74, 134, 135, 136, 137, 81, 7, 138, 139, 140, 141, 142, 143, 79, 80, 144, 145, 146, 147, 196, 197, 198, 199, 200, 201, 202, 203, 204, 205, 206, 207, 208, 209, 210, 211, 212, 213, 214, 215, 219, 220, 221, 222, 216, 217, 218, 223, 224, 225, 226, 227, 228, 229] (by decide +kernel) (by decide +kernel)
set_option maxRecDepth 20000 in
theorem gX0_passMinutes_X0_lookAtDoors : GoodIn wsX0_passMinutes (wsV RX0 141 RX0 yX0_lookAtDoors wsX0_lookAtDoors) := goodIn_app (goodIn_of _ (by decide +kernel)) ggX0_passMinutes_X0_lookAtDoors
set_option maxRecDepth 20000 in
theorem ggX0_passMinutes_X0_letWait : GoodIn wsX0_passMinutes wsX0_letWait := goodIn_ca (goodIn_r _ [151, 12, 13, 82, 152, 14, 15, 16, 17, 18, 19, 20, 21, 22, 23, 24, 25, 26, 27, 28, 29, 30, 31, 32, 33, 34, 35, 36, 153, 154, 155, 40, 156, 42, 157, 158, 159, 4, 160, 65, 7, 133, 48, 161, 162, 163, 164, 165, 166, 167, 168, 169, 170, 171, 6, 172, 173, 174, 175, 176, 138, 139, 177, 178, 179, 180, 181, 182, 183, 196, 197, 198, 199, 200, 201, 202, 203, 204, 205, 206, 207, 208, 209, 210, 211, 212, 213, 214, 215, 216, 217, 218] (by decide +kernel) (by decide +kernel)) (goodIn_sub (fun _ h => List.mem_cons_of_mem _ (List.mem_append_right _ h)) (by decide +kernel))
set_option maxRecDepth 20000 in
theorem gX0_passMinutes_X0_letWait : GoodIn wsX0_passMinutes (wsV RX0 144 RX0 yX0_letWait wsX0_letWait) := goodIn_app (goodIn_of _ (by decide +kernel)) ggX0_passMinutes_X0_letWait
set_option maxRecDepth 20000 in
theorem ggX0_passMinutes_X0_freeDoors : GoodIn wsX0_passMinutes wsX0_freeDoors := goodIn_r _ [187, 6, 7, 196, 197, 198, 199, 200, 201, 202, 203, 204, 205, 206, 207, 208, 209, 210, 211, 212, 213, 214, 215] (by decide +kernel) (by decide +kernel)
set_option maxRecDepth 20000 in
theorem gX0_passMinutes_X0_freeDoors : GoodIn wsX0_passMinutes (wsV RX0 126 RX0 yX0_freeDoors wsX0_freeDoors) := goodIn_app (goodIn_of _ (by decide +kernel)) ggX0_passMinutes_X0_freeDoors
set_option maxRecDepth 20000 in
theorem ggX0_passMinutes_X0_endMinute : GoodIn wsX0_passMinutes wsX0_endMinute := goodIn_ca (goodIn_r _ [191, 79, 80, 65, 14, 15, 16, 17, 18, 19, 20, 21, 22, 23, 24, 25, 26, 27, 28, 29, 30, 31, 32, 33, 34, 35, 36, 192, 193, 194, 86, 195, 95, 109, 196, 197, 198, 199, 200, 216, 217, 218, 223, 224, 225, 226, 227, 228, 229] (by decide +kernel) (by decide +kernel)) (goodIn_sub (fun _ h => List.mem_cons_of_mem _ (List.mem_append_right _ h)) (by decide +kernel))
set_option maxRecDepth 20000 in
theorem gX0_passMinutes_X0_endMinute : GoodIn wsX0_passMinutes (wsV RX0 147 RX0 yX0_endMinute wsX0_endMinute) := goodIn_app (goodIn_of _ (by decide +kernel)) ggX0_passMinutes_X0_endMinute
theorem dX0_passMinutes_0 : decode cX0_passMinutes 0 = .ok (.iconst 0, 1) := by decide +kernel
theorem dX0_passMinutes_1 : decode cX0_passMinutes 1 = .ok (.istore_n 2, 1) := by decide +kernel
theorem dX0_passMinutes_2 : decode cX0_passMinutes 2 = .ok (.iconst 0, 1) := by decide +kernel
theorem dX0_passMinutes_3 : decode cX0_passMinutes 3 = .ok (.istore_n 3, 1) := by decide +kernel
theorem dX0_passMinutes_4 : decode cX0_passMinutes 4 = .ok (.iload_n 3, 1) := by decide +kernel
theorem dX0_passMinutes_5 : decode cX0_passMinutes 5 = .ok (.iload_n 1, 1) := by decide +kernel
theorem dX0_passMinutes_6 : decode cX0_passMinutes 6 = .ok (.if_icmp .ge 40, 3) := by decide +kernel
theorem dX0_passMinutes_9 : decode cX0_passMinutes 9 = .ok (.aload_n 0, 1) := by decide +kernel
theorem dX0_passMinutes_10 : decode cX0_passMinutes 10 = .ok (.invokevirtual 132, 3) := by decide +kernel
theorem dX0_passMinutes_13 : decode cX0_passMinutes 13 = .ok (.aload_n 0, 1) := by decide +kernel
theorem dX0_passMinutes_14 : decode cX0_passMinutes 14 = .ok (.invokevirtual 135, 3) := by decide +kernel
theorem dX0_passMinutes_17 : decode cX0_passMinutes 17 = .ok (.iload_n 2, 1) := by decide +kernel
theorem dX0_passMinutes_18 : decode cX0_passMinutes 18 = .ok (.aload_n 0, 1) := by decide +kernel
theorem dX0_passMinutes_19 : decode cX0_passMinutes 19 = .ok (.invokevirtual 138, 3) := by decide +kernel
theorem dX0_passMinutes_22 : decode cX0_passMinutes 22 = .ok (.iadd, 1) := by decide +kernel
theorem dX0_passMinutes_23 : decode cX0_passMinutes 23 = .ok (.istore_n 2, 1) := by decide +kernel
theorem dX0_passMinutes_24 : decode cX0_passMinutes 24 = .ok (.aload_n 0, 1) := by decide +kernel
theorem dX0_passMinutes_25 : decode cX0_passMinutes 25 = .ok (.invokevirtual 141, 3) := by decide +kernel
theorem dX0_passMinutes_28 : decode cX0_passMinutes 28 = .ok (.aload_n 0, 1) := by decide +kernel
theorem dX0_passMinutes_29 : decode cX0_passMinutes 29 = .ok (.invokevirtual 144, 3) := by decide +kernel
theorem dX0_passMinutes_32 : decode cX0_passMinutes 32 = .ok (.aload_n 0, 1) := by decide +kernel
theorem dX0_passMinutes_33 : decode cX0_passMinutes 33 = .ok (.invokevirtual 126, 3) := by decide +kernel
theorem dX0_passMinutes_36 : decode cX0_passMinutes 36 = .ok (.aload_n 0, 1) := by decide +kernel
theorem dX0_passMinutes_37 : decode cX0_passMinutes 37 = .ok (.invokevirtual 147, 3) := by decide +kernel
theorem dX0_passMinutes_40 : decode cX0_passMinutes 40 = .ok (.iinc 3 1, 3) := by decide +kernel
theorem dX0_passMinutes_43 : decode cX0_passMinutes 43 = .ok (.goto (-39), 3) := by decide +kernel
theorem dX0_passMinutes_46 : decode cX0_passMinutes 46 = .ok (.iload_n 2, 1) := by decide +kernel
theorem dX0_passMinutes_47 : decode cX0_passMinutes 47 = .ok (.ireturn, 1) := by decide +kernel
set_option maxRecDepth 20000 in
theorem ggX0_fillDoors_X0_queuedFor : GoodIn wsX0_fillDoors wsX0_queuedFor := goodIn_r _ [7, 8, 9, 10, 11, 12, 13, 14, 15, 16, 17, 18, 19, 20, 21, 22, 23, 24, 25, 26, 27, 28, 29, 30, 31, 32, 33, 34, 35, 36, 37, 38, 39, 40, 41, 42, 6, 43, 44, 45, 46, 47, 48, 49, 50, 51, 52, 53, 54, 55, 71, 72, 73, 56, 57, 58, 59, 60, 61, 62, 63, 64, 65, 66, 67, 68, 69, 70] (by decide +kernel) (by decide +kernel)
set_option maxRecDepth 20000 in
theorem gX0_fillDoors_X0_queuedFor : GoodIn wsX0_fillDoors (wsV RX0 150 RX0 yX0_queuedFor wsX0_queuedFor) := goodIn_app (goodIn_of _ (by decide +kernel)) ggX0_fillDoors_X0_queuedFor
theorem dX0_fillDoors_0 : decode cX0_fillDoors 0 = .ok (.iconst 0, 1) := by decide +kernel
theorem dX0_fillDoors_1 : decode cX0_fillDoors 1 = .ok (.istore_n 1, 1) := by decide +kernel
theorem dX0_fillDoors_2 : decode cX0_fillDoors 2 = .ok (.iload_n 1, 1) := by decide +kernel
theorem dX0_fillDoors_3 : decode cX0_fillDoors 3 = .ok (.aload_n 0, 1) := by decide +kernel
theorem dX0_fillDoors_4 : decode cX0_fillDoors 4 = .ok (.getfield 26, 3) := by decide +kernel
theorem dX0_fillDoors_7 : decode cX0_fillDoors 7 = .ok (.arraylength, 1) := by decide +kernel
theorem dX0_fillDoors_8 : decode cX0_fillDoors 8 = .ok (.if_icmp .ge 42, 3) := by decide +kernel
theorem dX0_fillDoors_11 : decode cX0_fillDoors 11 = .ok (.aload_n 0, 1) := by decide +kernel
theorem dX0_fillDoors_12 : decode cX0_fillDoors 12 = .ok (.getfield 26, 3) := by decide +kernel
theorem dX0_fillDoors_15 : decode cX0_fillDoors 15 = .ok (.iload_n 1, 1) := by decide +kernel
theorem dX0_fillDoors_16 : decode cX0_fillDoors 16 = .ok (.aaload, 1) := by decide +kernel
theorem dX0_fillDoors_17 : decode cX0_fillDoors 17 = .ok (.ifnonnull 27, 3) := by decide +kernel
theorem dX0_fillDoors_20 : decode cX0_fillDoors 20 = .ok (.aload_n 0, 1) := by decide +kernel
theorem dX0_fillDoors_21 : decode cX0_fillDoors 21 = .ok (.iload_n 1, 1) := by decide +kernel
theorem dX0_fillDoors_22 : decode cX0_fillDoors 22 = .ok (.iconst 0, 1) := by decide +kernel
theorem dX0_fillDoors_23 : decode cX0_fillDoors 23 = .ok (.invokevirtual 150, 3) := by decide +kernel
theorem dX0_fillDoors_26 : decode cX0_fillDoors 26 = .ok (.astore_n 2, 1) := by decide +kernel
theorem dX0_fillDoors_27 : decode cX0_fillDoors 27 = .ok (.aload_n 2, 1) := by decide +kernel
theorem dX0_fillDoors_28 : decode cX0_fillDoors 28 = .ok (.ifnull 16, 3) := by decide +kernel
theorem dX0_fillDoors_31 : decode cX0_fillDoors 31 = .ok (.aload_n 2, 1) := by decide +kernel
theorem dX0_fillDoors_32 : decode cX0_fillDoors 32 = .ok (.bipush 100, 2) := by decide +kernel
theorem dX0_fillDoors_34 : decode cX0_fillDoors 34 = .ok (.putfield 154, 3) := by decide +kernel
theorem dX0_fillDoors_37 : decode cX0_fillDoors 37 = .ok (.aload_n 0, 1) := by decide +kernel
theorem dX0_fillDoors_38 : decode cX0_fillDoors 38 = .ok (.getfield 26, 3) := by decide +kernel
theorem dX0_fillDoors_41 : decode cX0_fillDoors 41 = .ok (.iload_n 1, 1) := by decide +kernel
theorem dX0_fillDoors_42 : decode cX0_fillDoors 42 = .ok (.aload_n 2, 1) := by decide +kernel
theorem dX0_fillDoors_43 : decode cX0_fillDoors 43 = .ok (.aastore, 1) := by decide +kernel
theorem dX0_fillDoors_44 : decode cX0_fillDoors 44 = .ok (.iinc 1 1, 3) := by decide +kernel
theorem dX0_fillDoors_47 : decode cX0_fillDoors 47 = .ok (.goto (-45), 3) := by decide +kernel
theorem dX0_fillDoors_50 : decode cX0_fillDoors 50 = .ok (.return_, 1) := by decide +kernel
set_option maxRecDepth 20000 in
theorem ggX0_handleUnits_X0_powerAt : GoodIn wsX0_handleUnits wsX0_powerAt := goodIn_r _ [6, 7, 8, 9, 10, 11, 12, 13, 14, 15, 16, 17, 18, 19, 20, 21, 22, 23, 24, 25, 26, 27, 28, 29, 30, 31, 32, 33, 34, 35, 36, 37, 38, 39, 40, 41, 78, 79, 80, 81, 82, 83, 84, 85, 86, 87, 88, 89] (by decide +kernel) (by decide +kernel)
set_option maxRecDepth 20000 in
theorem gX0_handleUnits_X0_powerAt : GoodIn wsX0_handleUnits (wsV RX0 158 RX0 yX0_powerAt wsX0_powerAt) := goodIn_app (goodIn_of _ (by decide +kernel)) ggX0_handleUnits_X0_powerAt
set_option maxRecDepth 20000 in
theorem ggX0_handleUnits_X0_handleUnitsOf : GoodIn wsX0_handleUnits wsX0_handleUnitsOf := goodIn_ca (goodIn_r _ [45, 46, 47, 48, 49, 11, 12, 13, 14, 15, 16, 17, 18, 19, 20, 21, 22, 23, 24, 25, 26, 27, 28, 29, 30, 31, 32, 33, 50, 51, 52, 53, 54, 55, 56, 57, 58, 59, 60, 61, 62, 63, 64, 65, 66, 67, 68, 69, 70, 71, 72, 73, 74, 75, 76, 77, 78, 79, 80, 81, 82, 90, 91, 92, 93, 94, 95, 96, 97, 98, 99, 100, 101, 102, 103, 104, 87, 88, 89, 105, 106, 107, 108, 109, 110, 111] (by decide +kernel) (by decide +kernel)) (goodIn_sub (fun _ h => List.mem_cons_of_mem _ (List.mem_append_right _ h)) (by decide +kernel))
set_option maxRecDepth 20000 in
theorem gX0_handleUnits_X0_handleUnitsOf : GoodIn wsX0_handleUnits (wsV RX0 161 RX0 yX0_handleUnitsOf wsX0_handleUnitsOf) := goodIn_app (goodIn_of _ (by decide +kernel)) ggX0_handleUnits_X0_handleUnitsOf
theorem dX0_handleUnits_0 : decode cX0_handleUnits 0 = .ok (.iconst 0, 1) := by decide +kernel
theorem dX0_handleUnits_1 : decode cX0_handleUnits 1 = .ok (.istore_n 1, 1) := by decide +kernel
theorem dX0_handleUnits_2 : decode cX0_handleUnits 2 = .ok (.iload_n 1, 1) := by decide +kernel
theorem dX0_handleUnits_3 : decode cX0_handleUnits 3 = .ok (.aload_n 0, 1) := by decide +kernel
theorem dX0_handleUnits_4 : decode cX0_handleUnits 4 = .ok (.getfield 26, 3) := by decide +kernel
theorem dX0_handleUnits_7 : decode cX0_handleUnits 7 = .ok (.arraylength, 1) := by decide +kernel
theorem dX0_handleUnits_8 : decode cX0_handleUnits 8 = .ok (.if_icmp .ge 30, 3) := by decide +kernel
theorem dX0_handleUnits_11 : decode cX0_handleUnits 11 = .ok (.aload_n 0, 1) := by decide +kernel
theorem dX0_handleUnits_12 : decode cX0_handleUnits 12 = .ok (.getfield 26, 3) := by decide +kernel
theorem dX0_handleUnits_15 : decode cX0_handleUnits 15 = .ok (.iload_n 1, 1) := by decide +kernel
theorem dX0_handleUnits_16 : decode cX0_handleUnits 16 = .ok (.aaload, 1) := by decide +kernel
theorem dX0_handleUnits_17 : decode cX0_handleUnits 17 = .ok (.astore_n 2, 1) := by decide +kernel
theorem dX0_handleUnits_18 : decode cX0_handleUnits 18 = .ok (.aload_n 2, 1) := by decide +kernel
theorem dX0_handleUnits_19 : decode cX0_handleUnits 19 = .ok (.ifnull 13, 3) := by decide +kernel
theorem dX0_handleUnits_22 : decode cX0_handleUnits 22 = .ok (.aload_n 0, 1) := by decide +kernel
theorem dX0_handleUnits_23 : decode cX0_handleUnits 23 = .ok (.aload_n 2, 1) := by decide +kernel
theorem dX0_handleUnits_24 : decode cX0_handleUnits 24 = .ok (.aload_n 0, 1) := by decide +kernel
theorem dX0_handleUnits_25 : decode cX0_handleUnits 25 = .ok (.iload_n 1, 1) := by decide +kernel
theorem dX0_handleUnits_26 : decode cX0_handleUnits 26 = .ok (.invokevirtual 158, 3) := by decide +kernel
theorem dX0_handleUnits_29 : decode cX0_handleUnits 29 = .ok (.invokevirtual 161, 3) := by decide +kernel
theorem dX0_handleUnits_32 : decode cX0_handleUnits 32 = .ok (.iinc 1 1, 3) := by decide +kernel
theorem dX0_handleUnits_35 : decode cX0_handleUnits 35 = .ok (.goto (-33), 3) := by decide +kernel
theorem dX0_handleUnits_38 : decode cX0_handleUnits 38 = .ok (.return_, 1) := by decide +kernel
set_option maxRecDepth 20000 in
theorem ggX0_handleUnitsOf_Jx4a65c_size_8abf5 : GoodIn wsX0_handleUnitsOf wsJx4a65c_size_8abf5 := goodIn_r _ [9, 10, 76, 77, 78] (by decide +kernel) (by decide +kernel)
set_option maxRecDepth 20000 in
theorem gX0_handleUnitsOf_Jx4a65c_size_8abf5 : GoodIn wsX0_handleUnitsOf (wsV RX0 30 RJx4a65c yJx4a65c_size_8abf5 wsJx4a65c_size_8abf5) := goodIn_app (goodIn_of _ (by decide +kernel)) ggX0_handleUnitsOf_Jx4a65c_size_8abf5
set_option maxRecDepth 20000 in
theorem ggX0_handleUnitsOf_Jx4a65c_get_915e3 : GoodIn wsX0_handleUnitsOf wsJx4a65c_get_915e3 := goodIn_r _ [14, 10, 15, 16, 17, 18, 19, 20, 21, 22, 23, 24, 25, 8, 26, 27, 76, 77, 78] (by decide +kernel) (by decide +kernel)
set_option maxRecDepth 20000 in
theorem gX0_handleUnitsOf_Jx4a65c_get_915e3 : GoodIn wsX0_handleUnitsOf (wsV RX0 41 RJx4a65c yJx4a65c_get_915e3 wsJx4a65c_get_915e3) := goodIn_app (goodIn_of _ (by decide +kernel)) ggX0_handleUnitsOf_Jx4a65c_get_915e3
set_option maxRecDepth 20000 in
theorem ggX0_handleUnitsOf_X5_isOf : GoodIn wsX0_handleUnitsOf wsX5_isOf := goodIn_r _ [32, 33, 34, 79, 80, 81, 82, 83, 84, 85] (by decide +kernel) (by decide +kernel)
set_option maxRecDepth 20000 in
theorem gX0_handleUnitsOf_X5_isOf : GoodIn wsX0_handleUnitsOf (wsV RX0 165 RX5 yX5_isOf wsX5_isOf) := goodIn_app (goodIn_of _ (by decide +kernel)) ggX0_handleUnitsOf_X5_isOf
set_option maxRecDepth 20000 in
theorem ggX0_handleUnitsOf_X5_unload : GoodIn wsX0_handleUnitsOf wsX5_unload := goodIn_ca (goodIn_r _ [38, 33, 39, 34, 40, 41, 42, 43, 44, 45, 46, 47, 48, 49, 79, 80, 81, 82, 83, 84, 85, 61, 62, 63, 64, 65, 66, 67, 68, 69, 70, 71, 72, 73, 74, 75] (by decide +kernel) (by decide +kernel)) (goodIn_sub (fun _ h => List.mem_cons_of_mem _ (List.mem_append_right _ h)) (by decide +kernel))
set_option maxRecDepth 20000 in
theorem gX0_handleUnitsOf_X5_unload : GoodIn wsX0_handleUnitsOf (wsV RX0 173 RX5 yX5_unload wsX5_unload) := goodIn_app (goodIn_of _ (by decide +kernel)) ggX0_handleUnitsOf_X5_unload
set_option maxRecDepth 20000 in
theorem ggX0_handleUnitsOf_X5_load : GoodIn wsX0_handleUnitsOf wsX5_load := goodIn_r _ [53, 54, 43, 44, 45, 46, 55, 79, 80, 81, 82, 83, 84, 85] (by decide +kernel) (by decide +kernel)
set_option maxRecDepth 20000 in
theorem gX0_handleUnitsOf_X5_load : GoodIn wsX0_handleUnitsOf (wsV RX0 176 RX5 yX5_load wsX5_load) := goodIn_app (goodIn_of _ (by decide +kernel)) ggX0_handleUnitsOf_X5_load
theorem dX0_handleUnitsOf_0 : decode cX0_handleUnitsOf 0 = .ok (.iload_n 2, 1) := by decide +kernel
theorem dX0_handleUnitsOf_1 : decode cX0_handleUnitsOf 1 = .ok (.istore_n 3, 1) := by decide +kernel
theorem dX0_handleUnitsOf_2 : decode cX0_handleUnitsOf 2 = .ok (.iconst 0, 1) := by decide +kernel
theorem dX0_handleUnitsOf_3 : decode cX0_handleUnitsOf 3 = .ok (.istore 4, 2) := by decide +kernel
theorem dX0_handleUnitsOf_5 : decode cX0_handleUnitsOf 5 = .ok (.iload 4, 2) := by decide +kernel
theorem dX0_handleUnitsOf_7 : decode cX0_handleUnitsOf 7 = .ok (.aload_n 0, 1) := by decide +kernel
theorem dX0_handleUnitsOf_8 : decode cX0_handleUnitsOf 8 = .ok (.getfield 18, 3) := by decide +kernel
theorem dX0_handleUnitsOf_11 : decode cX0_handleUnitsOf 11 = .ok (.invokevirtual 30, 3) := by decide +kernel
theorem dX0_handleUnitsOf_14 : decode cX0_handleUnitsOf 14 = .ok (.if_icmp .ge 61, 3) := by decide +kernel
theorem dX0_handleUnitsOf_17 : decode cX0_handleUnitsOf 17 = .ok (.iload_n 3, 1) := by decide +kernel
theorem dX0_handleUnitsOf_18 : decode cX0_handleUnitsOf 18 = .ok (.ifCond .le 57, 3) := by decide +kernel
theorem dX0_handleUnitsOf_21 : decode cX0_handleUnitsOf 21 = .ok (.aload_n 0, 1) := by decide +kernel
theorem dX0_handleUnitsOf_22 : decode cX0_handleUnitsOf 22 = .ok (.getfield 18, 3) := by decide +kernel
theorem dX0_handleUnitsOf_25 : decode cX0_handleUnitsOf 25 = .ok (.iload 4, 2) := by decide +kernel
theorem dX0_handleUnitsOf_27 : decode cX0_handleUnitsOf 27 = .ok (.invokevirtual 41, 3) := by decide +kernel
theorem dX0_handleUnitsOf_30 : decode cX0_handleUnitsOf 30 = .ok (.checkcast 47, 3) := by decide +kernel
theorem dX0_handleUnitsOf_33 : decode cX0_handleUnitsOf 33 = .ok (.astore 5, 2) := by decide +kernel
theorem dX0_handleUnitsOf_35 : decode cX0_handleUnitsOf 35 = .ok (.aload 5, 2) := by decide +kernel
theorem dX0_handleUnitsOf_37 : decode cX0_handleUnitsOf 37 = .ok (.aload_n 1, 1) := by decide +kernel
theorem dX0_handleUnitsOf_38 : decode cX0_handleUnitsOf 38 = .ok (.invokevirtual 165, 3) := by decide +kernel
theorem dX0_handleUnitsOf_41 : decode cX0_handleUnitsOf 41 = .ok (.ifCond .eq 28, 3) := by decide +kernel
theorem dX0_handleUnitsOf_44 : decode cX0_handleUnitsOf 44 = .ok (.iload_n 3, 1) := by decide +kernel
theorem dX0_handleUnitsOf_45 : decode cX0_handleUnitsOf 45 = .ok (.aload_n 1, 1) := by decide +kernel
theorem dX0_handleUnitsOf_46 : decode cX0_handleUnitsOf 46 = .ok (.getfield 169, 3) := by decide +kernel
theorem dX0_handleUnitsOf_49 : decode cX0_handleUnitsOf 49 = .ok (.ifCond .eq 12, 3) := by decide +kernel
theorem dX0_handleUnitsOf_52 : decode cX0_handleUnitsOf 52 = .ok (.aload 5, 2) := by decide +kernel
theorem dX0_handleUnitsOf_54 : decode cX0_handleUnitsOf 54 = .ok (.iload_n 3, 1) := by decide +kernel
theorem dX0_handleUnitsOf_55 : decode cX0_handleUnitsOf 55 = .ok (.invokevirtual 173, 3) := by decide +kernel
theorem dX0_handleUnitsOf_58 : decode cX0_handleUnitsOf 58 = .ok (.goto 9, 3) := by decide +kernel
theorem dX0_handleUnitsOf_61 : decode cX0_handleUnitsOf 61 = .ok (.aload 5, 2) := by decide +kernel
theorem dX0_handleUnitsOf_63 : decode cX0_handleUnitsOf 63 = .ok (.iload_n 3, 1) := by decide +kernel
theorem dX0_handleUnitsOf_64 : decode cX0_handleUnitsOf 64 = .ok (.invokevirtual 176, 3) := by decide +kernel
theorem dX0_handleUnitsOf_67 : decode cX0_handleUnitsOf 67 = .ok (.isub, 1) := by decide +kernel
theorem dX0_handleUnitsOf_68 : decode cX0_handleUnitsOf 68 = .ok (.istore_n 3, 1) := by decide +kernel
theorem dX0_handleUnitsOf_69 : decode cX0_handleUnitsOf 69 = .ok (.iinc 4 1, 3) := by decide +kernel
theorem dX0_handleUnitsOf_72 : decode cX0_handleUnitsOf 72 = .ok (.goto (-67), 3) := by decide +kernel
theorem dX0_handleUnitsOf_75 : decode cX0_handleUnitsOf 75 = .ok (.aload_n 1, 1) := by decide +kernel
theorem dX0_handleUnitsOf_76 : decode cX0_handleUnitsOf 76 = .ok (.iload_n 3, 1) := by decide +kernel
theorem dX0_handleUnitsOf_77 : decode cX0_handleUnitsOf 77 = .ok (.iload_n 2, 1) := by decide +kernel
theorem dX0_handleUnitsOf_78 : decode cX0_handleUnitsOf 78 = .ok (.if_icmp .ge 7, 3) := by decide +kernel
theorem dX0_handleUnitsOf_81 : decode cX0_handleUnitsOf 81 = .ok (.iconst 1, 1) := by decide +kernel
theorem dX0_handleUnitsOf_82 : decode cX0_handleUnitsOf 82 = .ok (.goto 4, 3) := by decide +kernel
theorem dX0_handleUnitsOf_85 : decode cX0_handleUnitsOf 85 = .ok (.iconst 0, 1) := by decide +kernel
theorem dX0_handleUnitsOf_86 : decode cX0_handleUnitsOf 86 = .ok (.putfield 179, 3) := by decide +kernel
theorem dX0_handleUnitsOf_89 : decode cX0_handleUnitsOf 89 = .ok (.return_, 1) := by decide +kernel
set_option maxRecDepth 20000 in
theorem ggX0_letLeave_X0_openUnits : GoodIn wsX0_letLeave wsX0_openUnits := goodIn_r _ [7, 8, 9, 10, 11, 12, 13, 14, 15, 16, 17, 18, 19, 20, 21, 22, 23, 24, 25, 26, 27, 28, 29, 30, 31, 32, 33, 34, 35, 36, 37, 38, 39, 40, 41, 42, 43, 44, 45, 46, 47, 55, 56, 57, 58, 59, 60, 61, 62, 63, 64, 65, 66, 67, 68, 69, 70, 71, 72, 73, 74, 75, 76, 77, 78, 79, 80, 81, 82, 83, 84] (by decide +kernel) (by decide +kernel)
set_option maxRecDepth 20000 in
theorem gX0_letLeave_X0_openUnits : GoodIn wsX0_letLeave (wsV RX0 129 RX0 yX0_openUnits wsX0_openUnits) := goodIn_app (goodIn_of _ (by decide +kernel)) ggX0_letLeave_X0_openUnits
set_option maxRecDepth 20000 in
theorem ggX0_letLeave_X3_goAway : GoodIn wsX0_letLeave wsX3_goAway := goodIn_r _ [52, 53, 54, 70, 71, 72, 73, 74, 75, 76, 77, 78, 79, 80, 81, 82, 83, 84] (by decide +kernel) (by decide +kernel)
set_option maxRecDepth 20000 in
theorem gX0_letLeave_X3_goAway : GoodIn wsX0_letLeave (wsV RX0 123 RX3 yX3_goAway wsX3_goAway) := goodIn_app (goodIn_of _ (by decide +kernel)) ggX0_letLeave_X3_goAway
theorem dX0_letLeave_0 : decode cX0_letLeave 0 = .ok (.iconst 0, 1) := by decide +kernel
theorem dX0_letLeave_1 : decode cX0_letLeave 1 = .ok (.istore_n 1, 1) := by decide +kernel
theorem dX0_letLeave_2 : decode cX0_letLeave 2 = .ok (.iconst 0, 1) := by decide +kernel
theorem dX0_letLeave_3 : decode cX0_letLeave 3 = .ok (.istore_n 2, 1) := by decide +kernel
theorem dX0_letLeave_4 : decode cX0_letLeave 4 = .ok (.iload_n 2, 1) := by decide +kernel
theorem dX0_letLeave_5 : decode cX0_letLeave 5 = .ok (.aload_n 0, 1) := by decide +kernel
theorem dX0_letLeave_6 : decode cX0_letLeave 6 = .ok (.getfield 26, 3) := by decide +kernel
theorem dX0_letLeave_9 : decode cX0_letLeave 9 = .ok (.arraylength, 1) := by decide +kernel
theorem dX0_letLeave_10 : decode cX0_letLeave 10 = .ok (.if_icmp .ge 41, 3) := by decide +kernel
theorem dX0_letLeave_13 : decode cX0_letLeave 13 = .ok (.aload_n 0, 1) := by decide +kernel
theorem dX0_letLeave_14 : decode cX0_letLeave 14 = .ok (.getfield 26, 3) := by decide +kernel
theorem dX0_letLeave_17 : decode cX0_letLeave 17 = .ok (.iload_n 2, 1) := by decide +kernel
theorem dX0_letLeave_18 : decode cX0_letLeave 18 = .ok (.aaload, 1) := by decide +kernel
theorem dX0_letLeave_19 : decode cX0_letLeave 19 = .ok (.astore_n 3, 1) := by decide +kernel
theorem dX0_letLeave_20 : decode cX0_letLeave 20 = .ok (.aload_n 3, 1) := by decide +kernel
theorem dX0_letLeave_21 : decode cX0_letLeave 21 = .ok (.ifnull 24, 3) := by decide +kernel
theorem dX0_letLeave_24 : decode cX0_letLeave 24 = .ok (.aload_n 0, 1) := by decide +kernel
theorem dX0_letLeave_25 : decode cX0_letLeave 25 = .ok (.aload_n 3, 1) := by decide +kernel
theorem dX0_letLeave_26 : decode cX0_letLeave 26 = .ok (.invokevirtual 129, 3) := by decide +kernel
theorem dX0_letLeave_29 : decode cX0_letLeave 29 = .ok (.ifCond .ne 16, 3) := by decide +kernel
theorem dX0_letLeave_32 : decode cX0_letLeave 32 = .ok (.aload_n 3, 1) := by decide +kernel
theorem dX0_letLeave_33 : decode cX0_letLeave 33 = .ok (.aload_n 0, 1) := by decide +kernel
theorem dX0_letLeave_34 : decode cX0_letLeave 34 = .ok (.getfield 80, 3) := by decide +kernel
theorem dX0_letLeave_37 : decode cX0_letLeave 37 = .ok (.iconst 1, 1) := by decide +kernel
theorem dX0_letLeave_38 : decode cX0_letLeave 38 = .ok (.iadd, 1) := by decide +kernel
theorem dX0_letLeave_39 : decode cX0_letLeave 39 = .ok (.invokevirtual 123, 3) := by decide +kernel
theorem dX0_letLeave_42 : decode cX0_letLeave 42 = .ok (.iinc 1 1, 3) := by decide +kernel
theorem dX0_letLeave_45 : decode cX0_letLeave 45 = .ok (.iinc 2 1, 3) := by decide +kernel
theorem dX0_letLeave_48 : decode cX0_letLeave 48 = .ok (.goto (-44), 3) := by decide +kernel
theorem dX0_letLeave_51 : decode cX0_letLeave 51 = .ok (.iload_n 1, 1) := by decide +kernel
theorem dX0_letLeave_52 : decode cX0_letLeave 52 = .ok (.ireturn, 1) := by decide +kernel
theorem dX0_freeDoors_0 : decode cX0_freeDoors 0 = .ok (.iconst 0, 1) := by decide +kernel
theorem dX0_freeDoors_1 : decode cX0_freeDoors 1 = .ok (.istore_n 1, 1) := by decide +kernel
theorem dX0_freeDoors_2 : decode cX0_freeDoors 2 = .ok (.iload_n 1, 1) := by decide +kernel
theorem dX0_freeDoors_3 : decode cX0_freeDoors 3 = .ok (.aload_n 0, 1) := by decide +kernel
theorem dX0_freeDoors_4 : decode cX0_freeDoors 4 = .ok (.getfield 26, 3) := by decide +kernel
theorem dX0_freeDoors_7 : decode cX0_freeDoors 7 = .ok (.arraylength, 1) := by decide +kernel
theorem dX0_freeDoors_8 : decode cX0_freeDoors 8 = .ok (.if_icmp .ge 36, 3) := by decide +kernel
theorem dX0_freeDoors_11 : decode cX0_freeDoors 11 = .ok (.aload_n 0, 1) := by decide +kernel
theorem dX0_freeDoors_12 : decode cX0_freeDoors 12 = .ok (.getfield 26, 3) := by decide +kernel
theorem dX0_freeDoors_15 : decode cX0_freeDoors 15 = .ok (.iload_n 1, 1) := by decide +kernel
theorem dX0_freeDoors_16 : decode cX0_freeDoors 16 = .ok (.aaload, 1) := by decide +kernel
theorem dX0_freeDoors_17 : decode cX0_freeDoors 17 = .ok (.astore_n 2, 1) := by decide +kernel
theorem dX0_freeDoors_18 : decode cX0_freeDoors 18 = .ok (.aload_n 2, 1) := by decide +kernel
theorem dX0_freeDoors_19 : decode cX0_freeDoors 19 = .ok (.ifnull 19, 3) := by decide +kernel
theorem dX0_freeDoors_22 : decode cX0_freeDoors 22 = .ok (.aload_n 2, 1) := by decide +kernel
theorem dX0_freeDoors_23 : decode cX0_freeDoors 23 = .ok (.getfield 154, 3) := by decide +kernel
theorem dX0_freeDoors_26 : decode cX0_freeDoors 26 = .ok (.bipush 108, 2) := by decide +kernel
theorem dX0_freeDoors_28 : decode cX0_freeDoors 28 = .ok (.if_icmp .ne 10, 3) := by decide +kernel
theorem dX0_freeDoors_31 : decode cX0_freeDoors 31 = .ok (.aload_n 0, 1) := by decide +kernel
theorem dX0_freeDoors_32 : decode cX0_freeDoors 32 = .ok (.getfield 26, 3) := by decide +kernel
theorem dX0_freeDoors_35 : decode cX0_freeDoors 35 = .ok (.iload_n 1, 1) := by decide +kernel
theorem dX0_freeDoors_36 : decode cX0_freeDoors 36 = .ok (.aconst_null, 1) := by decide +kernel
theorem dX0_freeDoors_37 : decode cX0_freeDoors 37 = .ok (.aastore, 1) := by decide +kernel
theorem dX0_freeDoors_38 : decode cX0_freeDoors 38 = .ok (.iinc 1 1, 3) := by decide +kernel
theorem dX0_freeDoors_41 : decode cX0_freeDoors 41 = .ok (.goto (-39), 3) := by decide +kernel
theorem dX0_freeDoors_44 : decode cX0_freeDoors 44 = .ok (.return_, 1) := by decide +kernel
set_option maxRecDepth 20000 in
theorem ggX0_endMinute_Jx4a65c_size_8abf5 : GoodIn wsX0_endMinute wsJx4a65c_size_8abf5 := goodIn_r _ [8, 9, 39, 40, 41] (by decide +kernel) (by decide +kernel)
set_option maxRecDepth 20000 in
theorem gX0_endMinute_Jx4a65c_size_8abf5 : GoodIn wsX0_endMinute (wsV RX0 30 RJx4a65c yJx4a65c_size_8abf5 wsJx4a65c_size_8abf5) := goodIn_app (goodIn_of _ (by decide +kernel)) ggX0_endMinute_Jx4a65c_size_8abf5
set_option maxRecDepth 20000 in
theorem ggX0_endMinute_Jx4a65c_get_915e3 : GoodIn wsX0_endMinute wsJx4a65c_get_915e3 := goodIn_r _ [13, 9, 14, 15, 16, 17, 18, 19, 20, 21, 22, 23, 24, 7, 25, 26, 39, 40, 41] (by decide +kernel) (by decide +kernel)
set_option maxRecDepth 20000 in
theorem gX0_endMinute_Jx4a65c_get_915e3 : GoodIn wsX0_endMinute (wsV RX0 41 RJx4a65c yJx4a65c_get_915e3 wsJx4a65c_get_915e3) := goodIn_app (goodIn_of _ (by decide +kernel)) ggX0_endMinute_Jx4a65c_get_915e3
set_option maxRecDepth 20000 in
theorem ggX0_endMinute_X5_endMinute : GoodIn wsX0_endMinute wsX5_endMinute := goodIn_ca (goodIn_r _ [31, 32, 33, 42, 43, 44, 45, 46, 47, 48] (by decide +kernel) (by decide +kernel)) (goodIn_sub (fun _ h => List.mem_cons_of_mem _ (List.mem_append_right _ h)) (by decide +kernel))
set_option maxRecDepth 20000 in
theorem gX0_endMinute_X5_endMinute : GoodIn wsX0_endMinute (wsV RX0 182 RX5 yX5_endMinute wsX5_endMinute) := goodIn_app (goodIn_of _ (by decide +kernel)) ggX0_endMinute_X5_endMinute
theorem dX0_endMinute_0 : decode cX0_endMinute 0 = .ok (.iconst 0, 1) := by decide +kernel
theorem dX0_endMinute_1 : decode cX0_endMinute 1 = .ok (.istore_n 1, 1) := by decide +kernel
theorem dX0_endMinute_2 : decode cX0_endMinute 2 = .ok (.iload_n 1, 1) := by decide +kernel
theorem dX0_endMinute_3 : decode cX0_endMinute 3 = .ok (.aload_n 0, 1) := by decide +kernel
theorem dX0_endMinute_4 : decode cX0_endMinute 4 = .ok (.getfield 18, 3) := by decide +kernel
theorem dX0_endMinute_7 : decode cX0_endMinute 7 = .ok (.invokevirtual 30, 3) := by decide +kernel
theorem dX0_endMinute_10 : decode cX0_endMinute 10 = .ok (.if_icmp .ge 23, 3) := by decide +kernel
theorem dX0_endMinute_13 : decode cX0_endMinute 13 = .ok (.aload_n 0, 1) := by decide +kernel
theorem dX0_endMinute_14 : decode cX0_endMinute 14 = .ok (.getfield 18, 3) := by decide +kernel
theorem dX0_endMinute_17 : decode cX0_endMinute 17 = .ok (.iload_n 1, 1) := by decide +kernel
theorem dX0_endMinute_18 : decode cX0_endMinute 18 = .ok (.invokevirtual 41, 3) := by decide +kernel
theorem dX0_endMinute_21 : decode cX0_endMinute 21 = .ok (.checkcast 47, 3) := by decide +kernel
theorem dX0_endMinute_24 : decode cX0_endMinute 24 = .ok (.invokevirtual 182, 3) := by decide +kernel
theorem dX0_endMinute_27 : decode cX0_endMinute 27 = .ok (.iinc 1 1, 3) := by decide +kernel
theorem dX0_endMinute_30 : decode cX0_endMinute 30 = .ok (.goto (-28), 3) := by decide +kernel
theorem dX0_endMinute_33 : decode cX0_endMinute 33 = .ok (.aload_n 0, 1) := by decide +kernel
theorem dX0_endMinute_34 : decode cX0_endMinute 34 = .ok (.dup, 1) := by decide +kernel
theorem dX0_endMinute_35 : decode cX0_endMinute 35 = .ok (.getfield 80, 3) := by decide +kernel
theorem dX0_endMinute_38 : decode cX0_endMinute 38 = .ok (.iconst 1, 1) := by decide +kernel
theorem dX0_endMinute_39 : decode cX0_endMinute 39 = .ok (.iadd, 1) := by decide +kernel
theorem dX0_endMinute_40 : decode cX0_endMinute 40 = .ok (.putfield 80, 3) := by decide +kernel
theorem dX0_endMinute_43 : decode cX0_endMinute 43 = .ok (.return_, 1) := by decide +kernel
set_option maxRecDepth 20000 in
theorem ggX0_lookAtDoors_X0_powerAt : GoodIn wsX0_lookAtDoors wsX0_powerAt := goodIn_r _ [7, 8, 9, 10, 11, 12, 13, 14, 15, 16, 17, 18, 19, 20, 21, 22, 23, 24, 25, 26, 27, 28, 29, 30, 31, 32, 33, 34, 35, 36, 37, 38, 39, 40, 41, 42, 61, 62, 63, 64, 65, 81, 82, 83, 84, 85, 86, 87] (by decide +kernel) (by decide +kernel)
set_option maxRecDepth 20000 in
theorem gX0_lookAtDoors_X0_powerAt : GoodIn wsX0_lookAtDoors (wsV RX0 158 RX0 yX0_powerAt wsX0_powerAt) := goodIn_app (goodIn_of _ (by decide +kernel)) ggX0_lookAtDoors_X0_powerAt
set_option maxRecDepth 20000 in
theorem ggX0_lookAtDoors_X0_debtorAtDoor : GoodIn wsX0_lookAtDoors wsX0_debtorAtDoor := goodIn_r _ [46, 47, 48, 49, 10, 50, 51, 52, 53, 6, 54, 55, 56, 57, 58, 59, 60, 12, 13, 14, 15, 16, 17, 18, 19, 20, 21, 22, 23, 24, 25, 26, 27, 28, 29, 30, 31, 32, 33, 34, 66, 67, 68, 69, 70, 71, 72, 73, 74, 75, 76, 77, 78, 79, 80, 61, 62, 63, 64, 65, 88, 89, 90, 91, 92, 93, 94, 85, 86, 87] (by decide +kernel) (by decide +kernel)
set_option maxRecDepth 20000 in
theorem gX0_lookAtDoors_X0_debtorAtDoor : GoodIn wsX0_lookAtDoors (wsV RX0 183 RX0 yX0_debtorAtDoor wsX0_debtorAtDoor) := goodIn_app (goodIn_of _ (by decide +kernel)) ggX0_lookAtDoors_X0_debtorAtDoor
theorem dX0_lookAtDoors_0 : decode cX0_lookAtDoors 0 = .ok (.iconst 0, 1) := by decide +kernel
theorem dX0_lookAtDoors_1 : decode cX0_lookAtDoors 1 = .ok (.istore_n 1, 1) := by decide +kernel
theorem dX0_lookAtDoors_2 : decode cX0_lookAtDoors 2 = .ok (.iload_n 1, 1) := by decide +kernel
theorem dX0_lookAtDoors_3 : decode cX0_lookAtDoors 3 = .ok (.aload_n 0, 1) := by decide +kernel
theorem dX0_lookAtDoors_4 : decode cX0_lookAtDoors 4 = .ok (.getfield 26, 3) := by decide +kernel
theorem dX0_lookAtDoors_7 : decode cX0_lookAtDoors 7 = .ok (.arraylength, 1) := by decide +kernel
theorem dX0_lookAtDoors_8 : decode cX0_lookAtDoors 8 = .ok (.if_icmp .ge 34, 3) := by decide +kernel
theorem dX0_lookAtDoors_11 : decode cX0_lookAtDoors 11 = .ok (.aload_n 0, 1) := by decide +kernel
theorem dX0_lookAtDoors_12 : decode cX0_lookAtDoors 12 = .ok (.getfield 26, 3) := by decide +kernel
theorem dX0_lookAtDoors_15 : decode cX0_lookAtDoors 15 = .ok (.iload_n 1, 1) := by decide +kernel
theorem dX0_lookAtDoors_16 : decode cX0_lookAtDoors 16 = .ok (.aaload, 1) := by decide +kernel
theorem dX0_lookAtDoors_17 : decode cX0_lookAtDoors 17 = .ok (.astore_n 2, 1) := by decide +kernel
theorem dX0_lookAtDoors_18 : decode cX0_lookAtDoors 18 = .ok (.aload_n 2, 1) := by decide +kernel
theorem dX0_lookAtDoors_19 : decode cX0_lookAtDoors 19 = .ok (.ifnull 17, 3) := by decide +kernel
theorem dX0_lookAtDoors_22 : decode cX0_lookAtDoors 22 = .ok (.aload_n 2, 1) := by decide +kernel
theorem dX0_lookAtDoors_23 : decode cX0_lookAtDoors 23 = .ok (.aload_n 0, 1) := by decide +kernel
theorem dX0_lookAtDoors_24 : decode cX0_lookAtDoors 24 = .ok (.aload_n 2, 1) := by decide +kernel
theorem dX0_lookAtDoors_25 : decode cX0_lookAtDoors 25 = .ok (.aload_n 0, 1) := by decide +kernel
theorem dX0_lookAtDoors_26 : decode cX0_lookAtDoors 26 = .ok (.iload_n 1, 1) := by decide +kernel
theorem dX0_lookAtDoors_27 : decode cX0_lookAtDoors 27 = .ok (.invokevirtual 158, 3) := by decide +kernel
theorem dX0_lookAtDoors_30 : decode cX0_lookAtDoors 30 = .ok (.invokevirtual 183, 3) := by decide +kernel
theorem dX0_lookAtDoors_33 : decode cX0_lookAtDoors 33 = .ok (.putfield 187, 3) := by decide +kernel
theorem dX0_lookAtDoors_36 : decode cX0_lookAtDoors 36 = .ok (.iinc 1 1, 3) := by decide +kernel
theorem dX0_lookAtDoors_39 : decode cX0_lookAtDoors 39 = .ok (.goto (-37), 3) := by decide +kernel
theorem dX0_lookAtDoors_42 : decode cX0_lookAtDoors 42 = .ok (.return_, 1) := by decide +kernel
set_option maxRecDepth 20000 in
theorem ggX0_debtorAtDoor_X0_firstMissedBy : GoodIn wsX0_debtorAtDoor wsX0_firstMissedBy := goodIn_r _ [10, 11, 12, 13, 14, 15, 16, 17, 18, 19, 20, 21, 22, 23, 24, 25, 26, 27, 28, 29, 30, 31, 32, 33, 34, 35, 36, 37, 38, 39, 55, 56, 57, 58, 59, 60, 61, 62, 63, 64, 65, 66, 67, 68, 69] (by decide +kernel) (by decide +kernel)
set_option maxRecDepth 20000 in
theorem gX0_debtorAtDoor_X0_firstMissedBy : GoodIn wsX0_debtorAtDoor (wsV RX0 189 RX0 yX0_firstMissedBy wsX0_firstMissedBy) := goodIn_app (goodIn_of _ (by decide +kernel)) ggX0_debtorAtDoor_X0_firstMissedBy
theorem dX0_debtorAtDoor_0 : decode cX0_debtorAtDoor 0 = .ok (.iload_n 2, 1) := by decide +kernel
theorem dX0_debtorAtDoor_1 : decode cX0_debtorAtDoor 1 = .ok (.ifCond .eq 10, 3) := by decide +kernel
theorem dX0_debtorAtDoor_4 : decode cX0_debtorAtDoor 4 = .ok (.aload_n 1, 1) := by decide +kernel
theorem dX0_debtorAtDoor_5 : decode cX0_debtorAtDoor 5 = .ok (.getfield 169, 3) := by decide +kernel
theorem dX0_debtorAtDoor_8 : decode cX0_debtorAtDoor 8 = .ok (.ifCond .eq 5, 3) := by decide +kernel
theorem dX0_debtorAtDoor_11 : decode cX0_debtorAtDoor 11 = .ok (.iconst (-1), 1) := by decide +kernel
theorem dX0_debtorAtDoor_12 : decode cX0_debtorAtDoor 12 = .ok (.ireturn, 1) := by decide +kernel
theorem dX0_debtorAtDoor_13 : decode cX0_debtorAtDoor 13 = .ok (.aload_n 0, 1) := by decide +kernel
theorem dX0_debtorAtDoor_14 : decode cX0_debtorAtDoor 14 = .ok (.aload_n 1, 1) := by decide +kernel
theorem dX0_debtorAtDoor_15 : decode cX0_debtorAtDoor 15 = .ok (.invokevirtual 189, 3) := by decide +kernel
theorem dX0_debtorAtDoor_18 : decode cX0_debtorAtDoor 18 = .ok (.astore_n 3, 1) := by decide +kernel
theorem dX0_debtorAtDoor_19 : decode cX0_debtorAtDoor 19 = .ok (.aload_n 3, 1) := by decide +kernel
theorem dX0_debtorAtDoor_20 : decode cX0_debtorAtDoor 20 = .ok (.ifnull 12, 3) := by decide +kernel
theorem dX0_debtorAtDoor_23 : decode cX0_debtorAtDoor 23 = .ok (.aload_n 3, 1) := by decide +kernel
theorem dX0_debtorAtDoor_24 : decode cX0_debtorAtDoor 24 = .ok (.getfield 154, 3) := by decide +kernel
theorem dX0_debtorAtDoor_27 : decode cX0_debtorAtDoor 27 = .ok (.bipush 101, 2) := by decide +kernel
theorem dX0_debtorAtDoor_29 : decode cX0_debtorAtDoor 29 = .ok (.if_icmp .eq 5, 3) := by decide +kernel
theorem dX0_debtorAtDoor_32 : decode cX0_debtorAtDoor 32 = .ok (.iconst (-1), 1) := by decide +kernel
theorem dX0_debtorAtDoor_33 : decode cX0_debtorAtDoor 33 = .ok (.ireturn, 1) := by decide +kernel
theorem dX0_debtorAtDoor_34 : decode cX0_debtorAtDoor 34 = .ok (.aload_n 3, 1) := by decide +kernel
theorem dX0_debtorAtDoor_35 : decode cX0_debtorAtDoor 35 = .ok (.getfield 193, 3) := by decide +kernel
theorem dX0_debtorAtDoor_38 : decode cX0_debtorAtDoor 38 = .ok (.aload_n 0, 1) := by decide +kernel
theorem dX0_debtorAtDoor_39 : decode cX0_debtorAtDoor 39 = .ok (.getfield 80, 3) := by decide +kernel
theorem dX0_debtorAtDoor_42 : decode cX0_debtorAtDoor 42 = .ok (.if_icmp .gt 10, 3) := by decide +kernel
theorem dX0_debtorAtDoor_45 : decode cX0_debtorAtDoor 45 = .ok (.aload_n 3, 1) := by decide +kernel
theorem dX0_debtorAtDoor_46 : decode cX0_debtorAtDoor 46 = .ok (.getfield 196, 3) := by decide +kernel
theorem dX0_debtorAtDoor_49 : decode cX0_debtorAtDoor 49 = .ok (.goto 5, 3) := by decide +kernel
theorem dX0_debtorAtDoor_52 : decode cX0_debtorAtDoor 52 = .ok (.bipush (-2), 2) := by decide +kernel
theorem dX0_debtorAtDoor_54 : decode cX0_debtorAtDoor 54 = .ok (.ireturn, 1) := by decide +kernel
set_option maxRecDepth 20000 in
theorem ggX0_firstMissedBy_Jx4a65c_size_8abf5 : GoodIn wsX0_firstMissedBy wsJx4a65c_size_8abf5 := goodIn_r _ [11, 12, 42, 43, 44] (by decide +kernel) (by decide +kernel)
set_option maxRecDepth 20000 in
theorem gX0_firstMissedBy_Jx4a65c_size_8abf5 : GoodIn wsX0_firstMissedBy (wsV RX0 30 RJx4a65c yJx4a65c_size_8abf5 wsJx4a65c_size_8abf5) := goodIn_app (goodIn_of _ (by decide +kernel)) ggX0_firstMissedBy_Jx4a65c_size_8abf5
set_option maxRecDepth 20000 in
theorem ggX0_firstMissedBy_Jx4a65c_get_915e3 : GoodIn wsX0_firstMissedBy wsJx4a65c_get_915e3 := goodIn_r _ [16, 12, 17, 18, 19, 20, 21, 22, 23, 24, 25, 26, 27, 10, 28, 29, 42, 43, 44] (by decide +kernel) (by decide +kernel)
set_option maxRecDepth 20000 in
theorem gX0_firstMissedBy_Jx4a65c_get_915e3 : GoodIn wsX0_firstMissedBy (wsV RX0 41 RJx4a65c yJx4a65c_get_915e3 wsJx4a65c_get_915e3) := goodIn_app (goodIn_of _ (by decide +kernel)) ggX0_firstMissedBy_Jx4a65c_get_915e3
theorem dX0_firstMissedBy_0 : decode cX0_firstMissedBy 0 = .ok (.iconst 0, 1) := by decide +kernel
theorem dX0_firstMissedBy_1 : decode cX0_firstMissedBy 1 = .ok (.istore_n 2, 1) := by decide +kernel
theorem dX0_firstMissedBy_2 : decode cX0_firstMissedBy 2 = .ok (.iload_n 2, 1) := by decide +kernel
theorem dX0_firstMissedBy_3 : decode cX0_firstMissedBy 3 = .ok (.aload_n 0, 1) := by decide +kernel
theorem dX0_firstMissedBy_4 : decode cX0_firstMissedBy 4 = .ok (.getfield 18, 3) := by decide +kernel
theorem dX0_firstMissedBy_7 : decode cX0_firstMissedBy 7 = .ok (.invokevirtual 30, 3) := by decide +kernel
theorem dX0_firstMissedBy_10 : decode cX0_firstMissedBy 10 = .ok (.if_icmp .ge 45, 3) := by decide +kernel
theorem dX0_firstMissedBy_13 : decode cX0_firstMissedBy 13 = .ok (.aload_n 0, 1) := by decide +kernel
theorem dX0_firstMissedBy_14 : decode cX0_firstMissedBy 14 = .ok (.getfield 18, 3) := by decide +kernel
theorem dX0_firstMissedBy_17 : decode cX0_firstMissedBy 17 = .ok (.iload_n 2, 1) := by decide +kernel
theorem dX0_firstMissedBy_18 : decode cX0_firstMissedBy 18 = .ok (.invokevirtual 41, 3) := by decide +kernel
theorem dX0_firstMissedBy_21 : decode cX0_firstMissedBy 21 = .ok (.checkcast 47, 3) := by decide +kernel
theorem dX0_firstMissedBy_24 : decode cX0_firstMissedBy 24 = .ok (.astore_n 3, 1) := by decide +kernel
theorem dX0_firstMissedBy_25 : decode cX0_firstMissedBy 25 = .ok (.aload_n 3, 1) := by decide +kernel
theorem dX0_firstMissedBy_26 : decode cX0_firstMissedBy 26 = .ok (.getfield 199, 3) := by decide +kernel
theorem dX0_firstMissedBy_29 : decode cX0_firstMissedBy 29 = .ok (.aload_n 1, 1) := by decide +kernel
theorem dX0_firstMissedBy_30 : decode cX0_firstMissedBy 30 = .ok (.if_acmp .ne 19, 3) := by decide +kernel
theorem dX0_firstMissedBy_33 : decode cX0_firstMissedBy 33 = .ok (.aload_n 3, 1) := by decide +kernel
theorem dX0_firstMissedBy_34 : decode cX0_firstMissedBy 34 = .ok (.getfield 203, 3) := by decide +kernel
theorem dX0_firstMissedBy_37 : decode cX0_firstMissedBy 37 = .ok (.aload_n 3, 1) := by decide +kernel
theorem dX0_firstMissedBy_38 : decode cX0_firstMissedBy 38 = .ok (.getfield 206, 3) := by decide +kernel
theorem dX0_firstMissedBy_41 : decode cX0_firstMissedBy 41 = .ok (.if_icmp .ge 8, 3) := by decide +kernel
theorem dX0_firstMissedBy_44 : decode cX0_firstMissedBy 44 = .ok (.aload_n 3, 1) := by decide +kernel
theorem dX0_firstMissedBy_45 : decode cX0_firstMissedBy 45 = .ok (.getfield 209, 3) := by decide +kernel
theorem dX0_firstMissedBy_48 : decode cX0_firstMissedBy 48 = .ok (.areturn, 1) := by decide +kernel
theorem dX0_firstMissedBy_49 : decode cX0_firstMissedBy 49 = .ok (.iinc 2 1, 3) := by decide +kernel
theorem dX0_firstMissedBy_52 : decode cX0_firstMissedBy 52 = .ok (.goto (-50), 3) := by decide +kernel
theorem dX0_firstMissedBy_55 : decode cX0_firstMissedBy 55 = .ok (.aconst_null, 1) := by decide +kernel
theorem dX0_firstMissedBy_56 : decode cX0_firstMissedBy 56 = .ok (.areturn, 1) := by decide +kernel
set_option maxRecDepth 20000 in
theorem ggX0_letWait_Jx4a65c_size_8abf5 : GoodIn wsX0_letWait wsJx4a65c_size_8abf5 := goodIn_r _ [9, 10, 89, 90, 91] (by decide +kernel) (by decide +kernel)
set_option maxRecDepth 20000 in
theorem gX0_letWait_Jx4a65c_size_8abf5 : GoodIn wsX0_letWait (wsV RX0 30 RJx4a65c yJx4a65c_size_8abf5 wsJx4a65c_size_8abf5) := goodIn_app (goodIn_of _ (by decide +kernel)) ggX0_letWait_Jx4a65c_size_8abf5
set_option maxRecDepth 20000 in
theorem ggX0_letWait_Jx4a65c_get_915e3 : GoodIn wsX0_letWait wsJx4a65c_get_915e3 := goodIn_r _ [14, 10, 15, 16, 17, 18, 19, 20, 21, 22, 23, 24, 25, 8, 26, 27, 89, 90, 91] (by decide +kernel) (by decide +kernel)
set_option maxRecDepth 20000 in
theorem gX0_letWait_Jx4a65c_get_915e3 : GoodIn wsX0_letWait (wsV RX0 41 RJx4a65c yJx4a65c_get_915e3 wsJx4a65c_get_915e3) := goodIn_app (goodIn_of _ (by decide +kernel)) ggX0_letWait_Jx4a65c_get_915e3
set_option maxRecDepth 20000 in
theorem ggX0_letWait_X3_isPresent : GoodIn wsX0_letWait wsX3_isPresent := goodIn_r _ [32, 33, 74, 75, 76, 77, 78, 79, 80, 81, 82, 83, 84, 85, 86, 87, 88] (by decide +kernel) (by decide +kernel)
set_option maxRecDepth 20000 in
theorem gX0_letWait_X3_isPresent : GoodIn wsX0_letWait (wsV RX0 212 RX3 yX3_isPresent wsX3_isPresent) := goodIn_app (goodIn_of _ (by decide +kernel)) ggX0_letWait_X3_isPresent
set_option maxRecDepth 20000 in
theorem ggX0_letWait_X0_debtorOf : GoodIn wsX0_letWait wsX0_debtorOf := goodIn_r _ [38, 39, 40, 41, 42, 43, 44, 45, 31, 46, 47, 48, 49, 50, 51, 52, 37, 53, 54, 55, 56, 57, 58, 3, 59, 60, 61, 69, 70, 71, 72, 73, 74, 75, 76, 77, 78, 79, 80, 81, 82, 83, 84, 85, 86, 87, 88] (by decide +kernel) (by decide +kernel)
set_option maxRecDepth 20000 in
theorem gX0_letWait_X0_debtorOf : GoodIn wsX0_letWait (wsV RX0 219 RX0 yX0_debtorOf wsX0_debtorOf) := goodIn_app (goodIn_of _ (by decide +kernel)) ggX0_letWait_X0_debtorOf
set_option maxRecDepth 20000 in
theorem ggX0_letWait_X3_waitOwedBy : GoodIn wsX0_letWait wsX3_waitOwedBy := goodIn_ca (goodIn_r _ [65, 48, 66, 67, 68, 74, 75, 76, 77, 78, 79, 80, 81, 82, 83, 84, 85, 86, 87, 88] (by decide +kernel) (by decide +kernel)) (goodIn_sub (fun _ h => List.mem_cons_of_mem _ (List.mem_append_right _ h)) (by decide +kernel))
set_option maxRecDepth 20000 in
theorem gX0_letWait_X3_waitOwedBy : GoodIn wsX0_letWait (wsV RX0 222 RX3 yX3_waitOwedBy wsX3_waitOwedBy) := goodIn_app (goodIn_of _ (by decide +kernel)) ggX0_letWait_X3_waitOwedBy
theorem dX0_letWait_0 : decode cX0_letWait 0 = .ok (.iconst 0, 1) := by decide +kernel
theorem dX0_letWait_1 : decode cX0_letWait 1 = .ok (.istore_n 1, 1) := by decide +kernel
theorem dX0_letWait_2 : decode cX0_letWait 2 = .ok (.iload_n 1, 1) := by decide +kernel
theorem dX0_letWait_3 : decode cX0_letWait 3 = .ok (.aload_n 0, 1) := by decide +kernel
theorem dX0_letWait_4 : decode cX0_letWait 4 = .ok (.getfield 12, 3) := by decide +kernel
theorem dX0_letWait_7 : decode cX0_letWait 7 = .ok (.invokevirtual 30, 3) := by decide +kernel
theorem dX0_letWait_10 : decode cX0_letWait 10 = .ok (.if_icmp .ge 60, 3) := by decide +kernel
theorem dX0_letWait_13 : decode cX0_letWait 13 = .ok (.aload_n 0, 1) := by decide +kernel
theorem dX0_letWait_14 : decode cX0_letWait 14 = .ok (.getfield 12, 3) := by decide +kernel
theorem dX0_letWait_17 : decode cX0_letWait 17 = .ok (.iload_n 1, 1) := by decide +kernel
theorem dX0_letWait_18 : decode cX0_letWait 18 = .ok (.invokevirtual 41, 3) := by decide +kernel
theorem dX0_letWait_21 : decode cX0_letWait 21 = .ok (.checkcast 24, 3) := by decide +kernel
theorem dX0_letWait_24 : decode cX0_letWait 24 = .ok (.astore_n 2, 1) := by decide +kernel
theorem dX0_letWait_25 : decode cX0_letWait 25 = .ok (.aload_n 2, 1) := by decide +kernel
theorem dX0_letWait_26 : decode cX0_letWait 26 = .ok (.aload_n 2, 1) := by decide +kernel
theorem dX0_letWait_27 : decode cX0_letWait 27 = .ok (.invokevirtual 212, 3) := by decide +kernel
theorem dX0_letWait_30 : decode cX0_letWait 30 = .ok (.ifCond .eq 14, 3) := by decide +kernel
theorem dX0_letWait_33 : decode cX0_letWait 33 = .ok (.aload_n 2, 1) := by decide +kernel
theorem dX0_letWait_34 : decode cX0_letWait 34 = .ok (.getfield 179, 3) := by decide +kernel
theorem dX0_letWait_37 : decode cX0_letWait 37 = .ok (.ifCond .ne 7, 3) := by decide +kernel
theorem dX0_letWait_40 : decode cX0_letWait 40 = .ok (.iconst 1, 1) := by decide +kernel
theorem dX0_letWait_41 : decode cX0_letWait 41 = .ok (.goto 4, 3) := by decide +kernel
theorem dX0_letWait_44 : decode cX0_letWait 44 = .ok (.iconst 0, 1) := by decide +kernel
theorem dX0_letWait_45 : decode cX0_letWait 45 = .ok (.putfield 216, 3) := by decide +kernel
theorem dX0_letWait_48 : decode cX0_letWait 48 = .ok (.aload_n 2, 1) := by decide +kernel
theorem dX0_letWait_49 : decode cX0_letWait 49 = .ok (.getfield 216, 3) := by decide +kernel
theorem dX0_letWait_52 : decode cX0_letWait 52 = .ok (.ifCond .eq 12, 3) := by decide +kernel
theorem dX0_letWait_55 : decode cX0_letWait 55 = .ok (.aload_n 2, 1) := by decide +kernel
theorem dX0_letWait_56 : decode cX0_letWait 56 = .ok (.aload_n 0, 1) := by decide +kernel
theorem dX0_letWait_57 : decode cX0_letWait 57 = .ok (.aload_n 2, 1) := by decide +kernel
theorem dX0_letWait_58 : decode cX0_letWait 58 = .ok (.invokevirtual 219, 3) := by decide +kernel
theorem dX0_letWait_61 : decode cX0_letWait 61 = .ok (.invokevirtual 222, 3) := by decide +kernel
theorem dX0_letWait_64 : decode cX0_letWait 64 = .ok (.iinc 1 1, 3) := by decide +kernel
theorem dX0_letWait_67 : decode cX0_letWait 67 = .ok (.goto (-65), 3) := by decide +kernel
theorem dX0_letWait_70 : decode cX0_letWait 70 = .ok (.return_, 1) := by decide +kernel
set_option maxRecDepth 20000 in
theorem ggX0_debtorOf_X3_waitsOnItsOwn : GoodIn wsX0_debtorOf wsX3_waitsOnItsOwn := goodIn_r _ [9, 10, 11, 12, 32, 33, 34, 35, 36, 37, 38, 39, 40, 41, 42, 43, 44, 45, 46] (by decide +kernel) (by decide +kernel)
set_option maxRecDepth 20000 in
theorem gX0_debtorOf_X3_waitsOnItsOwn : GoodIn wsX0_debtorOf (wsV RX0 225 RX3 yX3_waitsOnItsOwn wsX3_waitsOnItsOwn) := goodIn_app (goodIn_of _ (by decide +kernel)) ggX0_debtorOf_X3_waitsOnItsOwn
set_option maxRecDepth 20000 in
theorem ggX0_debtorOf_X0_standingAt : GoodIn wsX0_debtorOf wsX0_standingAt := goodIn_r _ [17, 18, 27, 28, 29, 30, 31] (by decide +kernel) (by decide +kernel)
set_option maxRecDepth 20000 in
theorem gX0_debtorOf_X0_standingAt : GoodIn wsX0_debtorOf (wsV RX0 232 RX0 yX0_standingAt wsX0_standingAt) := goodIn_app (goodIn_of _ (by decide +kernel)) ggX0_debtorOf_X0_standingAt
set_option maxRecDepth 20000 in
theorem ggX0_debtorOf_X0_debtorBehind : GoodIn wsX0_debtorOf wsX0_debtorBehind := goodIn_r _ [22, 23, 24, 25, 26, 3, 32, 33, 34, 35, 36, 37, 38, 39, 40, 41, 42, 43, 44, 45, 46] (by decide +kernel) (by decide +kernel)
set_option maxRecDepth 20000 in
theorem gX0_debtorOf_X0_debtorBehind : GoodIn wsX0_debtorOf (wsV RX0 235 RX0 yX0_debtorBehind wsX0_debtorBehind) := goodIn_app (goodIn_of _ (by decide +kernel)) ggX0_debtorOf_X0_debtorBehind
theorem dX0_debtorOf_0 : decode cX0_debtorOf 0 = .ok (.aload_n 1, 1) := by decide +kernel
theorem dX0_debtorOf_1 : decode cX0_debtorOf 1 = .ok (.aload_n 0, 1) := by decide +kernel
theorem dX0_debtorOf_2 : decode cX0_debtorOf 2 = .ok (.getfield 80, 3) := by decide +kernel
theorem dX0_debtorOf_5 : decode cX0_debtorOf 5 = .ok (.invokevirtual 225, 3) := by decide +kernel
theorem dX0_debtorOf_8 : decode cX0_debtorOf 8 = .ok (.ifCond .eq 6, 3) := by decide +kernel
theorem dX0_debtorOf_11 : decode cX0_debtorOf 11 = .ok (.bipush (-2), 2) := by decide +kernel
theorem dX0_debtorOf_13 : decode cX0_debtorOf 13 = .ok (.ireturn, 1) := by decide +kernel
theorem dX0_debtorOf_14 : decode cX0_debtorOf 14 = .ok (.aload_n 1, 1) := by decide +kernel
theorem dX0_debtorOf_15 : decode cX0_debtorOf 15 = .ok (.getfield 154, 3) := by decide +kernel
theorem dX0_debtorOf_18 : decode cX0_debtorOf 18 = .ok (.bipush 100, 2) := by decide +kernel
theorem dX0_debtorOf_20 : decode cX0_debtorOf 20 = .ok (.if_icmp .ne 8, 3) := by decide +kernel
theorem dX0_debtorOf_23 : decode cX0_debtorOf 23 = .ok (.aload_n 1, 1) := by decide +kernel
theorem dX0_debtorOf_24 : decode cX0_debtorOf 24 = .ok (.getfield 187, 3) := by decide +kernel
theorem dX0_debtorOf_27 : decode cX0_debtorOf 27 = .ok (.ireturn, 1) := by decide +kernel
theorem dX0_debtorOf_28 : decode cX0_debtorOf 28 = .ok (.aload_n 0, 1) := by decide +kernel
theorem dX0_debtorOf_29 : decode cX0_debtorOf 29 = .ok (.aload_n 1, 1) := by decide +kernel
theorem dX0_debtorOf_30 : decode cX0_debtorOf 30 = .ok (.getfield 229, 3) := by decide +kernel
theorem dX0_debtorOf_33 : decode cX0_debtorOf 33 = .ok (.invokevirtual 232, 3) := by decide +kernel
theorem dX0_debtorOf_36 : decode cX0_debtorOf 36 = .ok (.astore_n 2, 1) := by decide +kernel
theorem dX0_debtorOf_37 : decode cX0_debtorOf 37 = .ok (.aload_n 2, 1) := by decide +kernel
theorem dX0_debtorOf_38 : decode cX0_debtorOf 38 = .ok (.ifnonnull 7, 3) := by decide +kernel
theorem dX0_debtorOf_41 : decode cX0_debtorOf 41 = .ok (.iconst (-1), 1) := by decide +kernel
theorem dX0_debtorOf_42 : decode cX0_debtorOf 42 = .ok (.goto 8, 3) := by decide +kernel
theorem dX0_debtorOf_45 : decode cX0_debtorOf 45 = .ok (.aload_n 0, 1) := by decide +kernel
theorem dX0_debtorOf_46 : decode cX0_debtorOf 46 = .ok (.aload_n 2, 1) := by decide +kernel
theorem dX0_debtorOf_47 : decode cX0_debtorOf 47 = .ok (.invokevirtual 235, 3) := by decide +kernel
theorem dX0_debtorOf_50 : decode cX0_debtorOf 50 = .ok (.ireturn, 1) := by decide +kernel
theorem dX0_debtorBehind_0 : decode cX0_debtorBehind 0 = .ok (.aload_n 1, 1) := by decide +kernel
theorem dX0_debtorBehind_1 : decode cX0_debtorBehind 1 = .ok (.getfield 179, 3) := by decide +kernel
theorem dX0_debtorBehind_4 : decode cX0_debtorBehind 4 = .ok (.ifCond .eq 23, 3) := by decide +kernel
theorem dX0_debtorBehind_7 : decode cX0_debtorBehind 7 = .ok (.aload_n 1, 1) := by decide +kernel
theorem dX0_debtorBehind_8 : decode cX0_debtorBehind 8 = .ok (.getfield 238, 3) := by decide +kernel
theorem dX0_debtorBehind_11 : decode cX0_debtorBehind 11 = .ok (.aload_n 1, 1) := by decide +kernel
theorem dX0_debtorBehind_12 : decode cX0_debtorBehind 12 = .ok (.getfield 193, 3) := by decide +kernel
theorem dX0_debtorBehind_15 : decode cX0_debtorBehind 15 = .ok (.if_icmp .le 10, 3) := by decide +kernel
theorem dX0_debtorBehind_18 : decode cX0_debtorBehind 18 = .ok (.aload_n 1, 1) := by decide +kernel
theorem dX0_debtorBehind_19 : decode cX0_debtorBehind 19 = .ok (.getfield 196, 3) := by decide +kernel
theorem dX0_debtorBehind_22 : decode cX0_debtorBehind 22 = .ok (.goto 4, 3) := by decide +kernel
theorem dX0_debtorBehind_25 : decode cX0_debtorBehind 25 = .ok (.iconst (-1), 1) := by decide +kernel
theorem dX0_debtorBehind_26 : decode cX0_debtorBehind 26 = .ok (.ireturn, 1) := by decide +kernel
theorem dX0_debtorBehind_27 : decode cX0_debtorBehind 27 = .ok (.aload_n 1, 1) := by decide +kernel
theorem dX0_debtorBehind_28 : decode cX0_debtorBehind 28 = .ok (.getfield 187, 3) := by decide +kernel
theorem dX0_debtorBehind_31 : decode cX0_debtorBehind 31 = .ok (.bipush (-2), 2) := by decide +kernel
theorem dX0_debtorBehind_33 : decode cX0_debtorBehind 33 = .ok (.if_icmp .ne 10, 3) := by decide +kernel
theorem dX0_debtorBehind_36 : decode cX0_debtorBehind 36 = .ok (.aload_n 1, 1) := by decide +kernel
theorem dX0_debtorBehind_37 : decode cX0_debtorBehind 37 = .ok (.getfield 196, 3) := by decide +kernel
theorem dX0_debtorBehind_40 : decode cX0_debtorBehind 40 = .ok (.goto 7, 3) := by decide +kernel
theorem dX0_debtorBehind_43 : decode cX0_debtorBehind 43 = .ok (.aload_n 1, 1) := by decide +kernel
theorem dX0_debtorBehind_44 : decode cX0_debtorBehind 44 = .ok (.getfield 187, 3) := by decide +kernel
theorem dX0_debtorBehind_47 : decode cX0_debtorBehind 47 = .ok (.ireturn, 1) := by decide +kernel
set_option maxRecDepth 20000 in
theorem ggX0_powerAt_Jx4a65c_size_8abf5 : GoodIn wsX0_powerAt wsJx4a65c_size_8abf5 := goodIn_r _ [9, 10, 45, 46, 47] (by decide +kernel) (by decide +kernel)
set_option maxRecDepth 20000 in
theorem gX0_powerAt_Jx4a65c_size_8abf5 : GoodIn wsX0_powerAt (wsV RX0 30 RJx4a65c yJx4a65c_size_8abf5 wsJx4a65c_size_8abf5) := goodIn_app (goodIn_of _ (by decide +kernel)) ggX0_powerAt_Jx4a65c_size_8abf5
set_option maxRecDepth 20000 in
theorem ggX0_powerAt_Jx4a65c_get_915e3 : GoodIn wsX0_powerAt wsJx4a65c_get_915e3 := goodIn_r _ [14, 10, 15, 16, 17, 18, 19, 20, 21, 22, 23, 24, 25, 8, 26, 27, 45, 46, 47] (by decide +kernel) (by decide +kernel)
set_option maxRecDepth 20000 in
theorem gX0_powerAt_Jx4a65c_get_915e3 : GoodIn wsX0_powerAt (wsV RX0 41 RJx4a65c yJx4a65c_get_915e3 wsJx4a65c_get_915e3) := goodIn_app (goodIn_of _ (by decide +kernel)) ggX0_powerAt_Jx4a65c_get_915e3
set_option maxRecDepth 20000 in
theorem ggX0_powerAt_X2_worksAt : GoodIn wsX0_powerAt wsX2_worksAt := goodIn_r _ [32, 33, 34, 35, 41, 42, 43, 44] (by decide +kernel) (by decide +kernel)
set_option maxRecDepth 20000 in
theorem gX0_powerAt_X2_worksAt : GoodIn wsX0_powerAt (wsV RX0 241 RX2 yX2_worksAt wsX2_worksAt) := goodIn_app (goodIn_of _ (by decide +kernel)) ggX0_powerAt_X2_worksAt
theorem dX0_powerAt_0 : decode cX0_powerAt 0 = .ok (.iconst 0, 1) := by decide +kernel
theorem dX0_powerAt_1 : decode cX0_powerAt 1 = .ok (.istore_n 2, 1) := by decide +kernel
theorem dX0_powerAt_2 : decode cX0_powerAt 2 = .ok (.iconst 0, 1) := by decide +kernel
theorem dX0_powerAt_3 : decode cX0_powerAt 3 = .ok (.istore_n 3, 1) := by decide +kernel
theorem dX0_powerAt_4 : decode cX0_powerAt 4 = .ok (.iload_n 3, 1) := by decide +kernel
theorem dX0_powerAt_5 : decode cX0_powerAt 5 = .ok (.aload_n 0, 1) := by decide +kernel
theorem dX0_powerAt_6 : decode cX0_powerAt 6 = .ok (.getfield 21, 3) := by decide +kernel
theorem dX0_powerAt_9 : decode cX0_powerAt 9 = .ok (.invokevirtual 30, 3) := by decide +kernel
theorem dX0_powerAt_12 : decode cX0_powerAt 12 = .ok (.if_icmp .ge 43, 3) := by decide +kernel
theorem dX0_powerAt_15 : decode cX0_powerAt 15 = .ok (.aload_n 0, 1) := by decide +kernel
theorem dX0_powerAt_16 : decode cX0_powerAt 16 = .ok (.getfield 21, 3) := by decide +kernel
theorem dX0_powerAt_19 : decode cX0_powerAt 19 = .ok (.iload_n 3, 1) := by decide +kernel
theorem dX0_powerAt_20 : decode cX0_powerAt 20 = .ok (.invokevirtual 41, 3) := by decide +kernel
theorem dX0_powerAt_23 : decode cX0_powerAt 23 = .ok (.checkcast 51, 3) := by decide +kernel
theorem dX0_powerAt_26 : decode cX0_powerAt 26 = .ok (.astore 4, 2) := by decide +kernel
theorem dX0_powerAt_28 : decode cX0_powerAt 28 = .ok (.aload 4, 2) := by decide +kernel
theorem dX0_powerAt_30 : decode cX0_powerAt 30 = .ok (.iload_n 1, 1) := by decide +kernel
theorem dX0_powerAt_31 : decode cX0_powerAt 31 = .ok (.aload_n 0, 1) := by decide +kernel
theorem dX0_powerAt_32 : decode cX0_powerAt 32 = .ok (.getfield 80, 3) := by decide +kernel
theorem dX0_powerAt_35 : decode cX0_powerAt 35 = .ok (.invokevirtual 241, 3) := by decide +kernel
theorem dX0_powerAt_38 : decode cX0_powerAt 38 = .ok (.ifCond .eq 11, 3) := by decide +kernel
theorem dX0_powerAt_41 : decode cX0_powerAt 41 = .ok (.iload_n 2, 1) := by decide +kernel
theorem dX0_powerAt_42 : decode cX0_powerAt 42 = .ok (.aload 4, 2) := by decide +kernel
theorem dX0_powerAt_44 : decode cX0_powerAt 44 = .ok (.getfield 245, 3) := by decide +kernel
theorem dX0_powerAt_47 : decode cX0_powerAt 47 = .ok (.iadd, 1) := by decide +kernel
theorem dX0_powerAt_48 : decode cX0_powerAt 48 = .ok (.istore_n 2, 1) := by decide +kernel
theorem dX0_powerAt_49 : decode cX0_powerAt 49 = .ok (.iinc 3 1, 3) := by decide +kernel
theorem dX0_powerAt_52 : decode cX0_powerAt 52 = .ok (.goto (-48), 3) := by decide +kernel
theorem dX0_powerAt_55 : decode cX0_powerAt 55 = .ok (.iload_n 2, 1) := by decide +kernel
theorem dX0_powerAt_56 : decode cX0_powerAt 56 = .ok (.ireturn, 1) := by decide +kernel
theorem dX0_standingAt_0 : decode cX0_standingAt 0 = .ok (.iload_n 1, 1) := by decide +kernel
theorem dX0_standingAt_1 : decode cX0_standingAt 1 = .ok (.ifCond .lt 21, 3) := by decide +kernel
theorem dX0_standingAt_4 : decode cX0_standingAt 4 = .ok (.iload_n 1, 1) := by decide +kernel
theorem dX0_standingAt_5 : decode cX0_standingAt 5 = .ok (.aload_n 0, 1) := by decide +kernel
theorem dX0_standingAt_6 : decode cX0_standingAt 6 = .ok (.getfield 26, 3) := by decide +kernel
theorem dX0_standingAt_9 : decode cX0_standingAt 9 = .ok (.arraylength, 1) := by decide +kernel
theorem dX0_standingAt_10 : decode cX0_standingAt 10 = .ok (.if_icmp .ge 12, 3) := by decide +kernel
theorem dX0_standingAt_13 : decode cX0_standingAt 13 = .ok (.aload_n 0, 1) := by decide +kernel
theorem dX0_standingAt_14 : decode cX0_standingAt 14 = .ok (.getfield 26, 3) := by decide +kernel
theorem dX0_standingAt_17 : decode cX0_standingAt 17 = .ok (.iload_n 1, 1) := by decide +kernel
theorem dX0_standingAt_18 : decode cX0_standingAt 18 = .ok (.aaload, 1) := by decide +kernel
theorem dX0_standingAt_19 : decode cX0_standingAt 19 = .ok (.goto 4, 3) := by decide +kernel
theorem dX0_standingAt_22 : decode cX0_standingAt 22 = .ok (.aconst_null, 1) := by decide +kernel
theorem dX0_standingAt_23 : decode cX0_standingAt 23 = .ok (.areturn, 1) := by decide +kernel
set_option maxRecDepth 20000 in
theorem ggX0_queuedFor_Jx4a65c_size_8abf5 : GoodIn wsX0_queuedFor wsJx4a65c_size_8abf5 := goodIn_r _ [7, 8, 50, 51, 52] (by decide +kernel) (by decide +kernel)
set_option maxRecDepth 20000 in
theorem gX0_queuedFor_Jx4a65c_size_8abf5 : GoodIn wsX0_queuedFor (wsV RX0 30 RJx4a65c yJx4a65c_size_8abf5 wsJx4a65c_size_8abf5) := goodIn_app (goodIn_of _ (by decide +kernel)) ggX0_queuedFor_Jx4a65c_size_8abf5
set_option maxRecDepth 20000 in
theorem ggX0_queuedFor_Jx4a65c_get_915e3 : GoodIn wsX0_queuedFor wsJx4a65c_get_915e3 := goodIn_r _ [12, 8, 13, 14, 15, 16, 17, 18, 19, 20, 21, 22, 23, 6, 24, 25, 50, 51, 52] (by decide +kernel) (by decide +kernel)
set_option maxRecDepth 20000 in
theorem gX0_queuedFor_Jx4a65c_get_915e3 : GoodIn wsX0_queuedFor (wsV RX0 41 RJx4a65c yJx4a65c_get_915e3 wsJx4a65c_get_915e3) := goodIn_app (goodIn_of _ (by decide +kernel)) ggX0_queuedFor_Jx4a65c_get_915e3
set_option maxRecDepth 20000 in
theorem ggX0_queuedFor_X3_isQueuedFor : GoodIn wsX0_queuedFor wsX3_isQueuedFor := goodIn_r _ [30, 31, 32, 53, 54, 55, 56, 57, 58, 59, 60, 61, 62, 63, 64, 65, 66, 67] (by decide +kernel) (by decide +kernel)
set_option maxRecDepth 20000 in
theorem gX0_queuedFor_X3_isQueuedFor : GoodIn wsX0_queuedFor (wsV RX0 248 RX3 yX3_isQueuedFor wsX3_isQueuedFor) := goodIn_app (goodIn_of _ (by decide +kernel)) ggX0_queuedFor_X3_isQueuedFor
set_option maxRecDepth 20000 in
theorem ggX0_queuedFor_X0_lorriesAheadOf : GoodIn wsX0_queuedFor wsX0_lorriesAheadOf := goodIn_r _ [37, 1, 2, 38, 3, 4, 5, 6, 7, 8, 9, 10, 11, 12, 13, 14, 15, 16, 17, 18, 19, 20, 21, 22, 23, 24, 25, 26, 27, 28, 29, 30, 31, 32, 39, 40, 41, 42, 43, 44, 45, 46, 47, 48, 49, 53, 54, 55, 56, 57, 58, 59, 60, 61, 62, 63, 64, 65, 66, 67, 50, 51, 52] (by decide +kernel) (by decide +kernel)
set_option maxRecDepth 20000 in
theorem gX0_queuedFor_X0_lorriesAheadOf : GoodIn wsX0_queuedFor (wsV RX0 251 RX0 yX0_lorriesAheadOf wsX0_lorriesAheadOf) := goodIn_app (goodIn_of _ (by decide +kernel)) ggX0_queuedFor_X0_lorriesAheadOf
theorem dX0_queuedFor_0 : decode cX0_queuedFor 0 = .ok (.iconst 0, 1) := by decide +kernel
theorem dX0_queuedFor_1 : decode cX0_queuedFor 1 = .ok (.istore_n 3, 1) := by decide +kernel
theorem dX0_queuedFor_2 : decode cX0_queuedFor 2 = .ok (.iload_n 3, 1) := by decide +kernel
theorem dX0_queuedFor_3 : decode cX0_queuedFor 3 = .ok (.aload_n 0, 1) := by decide +kernel
theorem dX0_queuedFor_4 : decode cX0_queuedFor 4 = .ok (.getfield 12, 3) := by decide +kernel
theorem dX0_queuedFor_7 : decode cX0_queuedFor 7 = .ok (.invokevirtual 30, 3) := by decide +kernel
theorem dX0_queuedFor_10 : decode cX0_queuedFor 10 = .ok (.if_icmp .ge 44, 3) := by decide +kernel
theorem dX0_queuedFor_13 : decode cX0_queuedFor 13 = .ok (.aload_n 0, 1) := by decide +kernel
theorem dX0_queuedFor_14 : decode cX0_queuedFor 14 = .ok (.getfield 12, 3) := by decide +kernel
theorem dX0_queuedFor_17 : decode cX0_queuedFor 17 = .ok (.iload_n 3, 1) := by decide +kernel
theorem dX0_queuedFor_18 : decode cX0_queuedFor 18 = .ok (.invokevirtual 41, 3) := by decide +kernel
theorem dX0_queuedFor_21 : decode cX0_queuedFor 21 = .ok (.checkcast 24, 3) := by decide +kernel
theorem dX0_queuedFor_24 : decode cX0_queuedFor 24 = .ok (.astore 4, 2) := by decide +kernel
theorem dX0_queuedFor_26 : decode cX0_queuedFor 26 = .ok (.aload 4, 2) := by decide +kernel
theorem dX0_queuedFor_28 : decode cX0_queuedFor 28 = .ok (.iload_n 1, 1) := by decide +kernel
theorem dX0_queuedFor_29 : decode cX0_queuedFor 29 = .ok (.invokevirtual 248, 3) := by decide +kernel
theorem dX0_queuedFor_32 : decode cX0_queuedFor 32 = .ok (.ifCond .eq 16, 3) := by decide +kernel
theorem dX0_queuedFor_35 : decode cX0_queuedFor 35 = .ok (.aload_n 0, 1) := by decide +kernel
theorem dX0_queuedFor_36 : decode cX0_queuedFor 36 = .ok (.aload 4, 2) := by decide +kernel
theorem dX0_queuedFor_38 : decode cX0_queuedFor 38 = .ok (.invokevirtual 251, 3) := by decide +kernel
theorem dX0_queuedFor_41 : decode cX0_queuedFor 41 = .ok (.iload_n 2, 1) := by decide +kernel
theorem dX0_queuedFor_42 : decode cX0_queuedFor 42 = .ok (.if_icmp .ne 6, 3) := by decide +kernel
theorem dX0_queuedFor_45 : decode cX0_queuedFor 45 = .ok (.aload 4, 2) := by decide +kernel
theorem dX0_queuedFor_47 : decode cX0_queuedFor 47 = .ok (.areturn, 1) := by decide +kernel
theorem dX0_queuedFor_48 : decode cX0_queuedFor 48 = .ok (.iinc 3 1, 3) := by decide +kernel
theorem dX0_queuedFor_51 : decode cX0_queuedFor 51 = .ok (.goto (-49), 3) := by decide +kernel
theorem dX0_queuedFor_54 : decode cX0_queuedFor 54 = .ok (.aconst_null, 1) := by decide +kernel
theorem dX0_queuedFor_55 : decode cX0_queuedFor 55 = .ok (.areturn, 1) := by decide +kernel
set_option maxRecDepth 20000 in
theorem ggX0_lorriesAheadOf_Jx4a65c_size_8abf5 : GoodIn wsX0_lorriesAheadOf wsJx4a65c_size_8abf5 := goodIn_r _ [8, 9, 60, 61, 62] (by decide +kernel) (by decide +kernel)
set_option maxRecDepth 20000 in
theorem gX0_lorriesAheadOf_Jx4a65c_size_8abf5 : GoodIn wsX0_lorriesAheadOf (wsV RX0 30 RJx4a65c yJx4a65c_size_8abf5 wsJx4a65c_size_8abf5) := goodIn_app (goodIn_of _ (by decide +kernel)) ggX0_lorriesAheadOf_Jx4a65c_size_8abf5
set_option maxRecDepth 20000 in
theorem ggX0_lorriesAheadOf_Jx4a65c_get_915e3 : GoodIn wsX0_lorriesAheadOf wsJx4a65c_get_915e3 := goodIn_r _ [13, 9, 14, 15, 16, 17, 18, 19, 20, 21, 22, 23, 24, 7, 25, 26, 60, 61, 62] (by decide +kernel) (by decide +kernel)
set_option maxRecDepth 20000 in
theorem gX0_lorriesAheadOf_Jx4a65c_get_915e3 : GoodIn wsX0_lorriesAheadOf (wsV RX0 41 RJx4a65c yJx4a65c_get_915e3 wsJx4a65c_get_915e3) := goodIn_app (goodIn_of _ (by decide +kernel)) ggX0_lorriesAheadOf_Jx4a65c_get_915e3
set_option maxRecDepth 20000 in
theorem ggX0_lorriesAheadOf_X3_isQueuedFor : GoodIn wsX0_lorriesAheadOf wsX3_isQueuedFor := goodIn_r _ [31, 32, 33, 45, 46, 47, 48, 49, 50, 51, 52, 53, 54, 55, 56, 57, 58, 59] (by decide +kernel) (by decide +kernel)
set_option maxRecDepth 20000 in
theorem gX0_lorriesAheadOf_X3_isQueuedFor : GoodIn wsX0_lorriesAheadOf (wsV RX0 248 RX3 yX3_isQueuedFor wsX3_isQueuedFor) := goodIn_app (goodIn_of _ (by decide +kernel)) ggX0_lorriesAheadOf_X3_isQueuedFor
set_option maxRecDepth 20000 in
theorem ggX0_lorriesAheadOf_X3_isAheadOf : GoodIn wsX0_lorriesAheadOf wsX3_isAheadOf := goodIn_r _ [37, 38, 39, 45, 46, 47, 48, 49, 50, 51, 52, 53, 54, 55, 56, 57, 58, 59] (by decide +kernel) (by decide +kernel)
set_option maxRecDepth 20000 in
theorem gX0_lorriesAheadOf_X3_isAheadOf : GoodIn wsX0_lorriesAheadOf (wsV RX0 254 RX3 yX3_isAheadOf wsX3_isAheadOf) := goodIn_app (goodIn_of _ (by decide +kernel)) ggX0_lorriesAheadOf_X3_isAheadOf
theorem dX0_lorriesAheadOf_0 : decode cX0_lorriesAheadOf 0 = .ok (.iconst 0, 1) := by decide +kernel
theorem dX0_lorriesAheadOf_1 : decode cX0_lorriesAheadOf 1 = .ok (.istore_n 2, 1) := by decide +kernel
theorem dX0_lorriesAheadOf_2 : decode cX0_lorriesAheadOf 2 = .ok (.iconst 0, 1) := by decide +kernel
theorem dX0_lorriesAheadOf_3 : decode cX0_lorriesAheadOf 3 = .ok (.istore_n 3, 1) := by decide +kernel
theorem dX0_lorriesAheadOf_4 : decode cX0_lorriesAheadOf 4 = .ok (.iload_n 3, 1) := by decide +kernel
theorem dX0_lorriesAheadOf_5 : decode cX0_lorriesAheadOf 5 = .ok (.aload_n 0, 1) := by decide +kernel
theorem dX0_lorriesAheadOf_6 : decode cX0_lorriesAheadOf 6 = .ok (.getfield 12, 3) := by decide +kernel
theorem dX0_lorriesAheadOf_9 : decode cX0_lorriesAheadOf 9 = .ok (.invokevirtual 30, 3) := by decide +kernel
theorem dX0_lorriesAheadOf_12 : decode cX0_lorriesAheadOf 12 = .ok (.if_icmp .ge 46, 3) := by decide +kernel
theorem dX0_lorriesAheadOf_15 : decode cX0_lorriesAheadOf 15 = .ok (.aload_n 0, 1) := by decide +kernel
theorem dX0_lorriesAheadOf_16 : decode cX0_lorriesAheadOf 16 = .ok (.getfield 12, 3) := by decide +kernel
theorem dX0_lorriesAheadOf_19 : decode cX0_lorriesAheadOf 19 = .ok (.iload_n 3, 1) := by decide +kernel
theorem dX0_lorriesAheadOf_20 : decode cX0_lorriesAheadOf 20 = .ok (.invokevirtual 41, 3) := by decide +kernel
theorem dX0_lorriesAheadOf_23 : decode cX0_lorriesAheadOf 23 = .ok (.checkcast 24, 3) := by decide +kernel
theorem dX0_lorriesAheadOf_26 : decode cX0_lorriesAheadOf 26 = .ok (.astore 4, 2) := by decide +kernel
theorem dX0_lorriesAheadOf_28 : decode cX0_lorriesAheadOf 28 = .ok (.aload 4, 2) := by decide +kernel
theorem dX0_lorriesAheadOf_30 : decode cX0_lorriesAheadOf 30 = .ok (.aload_n 1, 1) := by decide +kernel
theorem dX0_lorriesAheadOf_31 : decode cX0_lorriesAheadOf 31 = .ok (.getfield 229, 3) := by decide +kernel
theorem dX0_lorriesAheadOf_34 : decode cX0_lorriesAheadOf 34 = .ok (.invokevirtual 248, 3) := by decide +kernel
theorem dX0_lorriesAheadOf_37 : decode cX0_lorriesAheadOf 37 = .ok (.ifCond .eq 15, 3) := by decide +kernel
theorem dX0_lorriesAheadOf_40 : decode cX0_lorriesAheadOf 40 = .ok (.aload 4, 2) := by decide +kernel
theorem dX0_lorriesAheadOf_42 : decode cX0_lorriesAheadOf 42 = .ok (.aload_n 1, 1) := by decide +kernel
theorem dX0_lorriesAheadOf_43 : decode cX0_lorriesAheadOf 43 = .ok (.invokevirtual 254, 3) := by decide +kernel
theorem dX0_lorriesAheadOf_46 : decode cX0_lorriesAheadOf 46 = .ok (.ifCond .eq 6, 3) := by decide +kernel
theorem dX0_lorriesAheadOf_49 : decode cX0_lorriesAheadOf 49 = .ok (.iinc 2 1, 3) := by decide +kernel
theorem dX0_lorriesAheadOf_52 : decode cX0_lorriesAheadOf 52 = .ok (.iinc 3 1, 3) := by decide +kernel
theorem dX0_lorriesAheadOf_55 : decode cX0_lorriesAheadOf 55 = .ok (.goto (-51), 3) := by decide +kernel
theorem dX0_lorriesAheadOf_58 : decode cX0_lorriesAheadOf 58 = .ok (.iload_n 2, 1) := by decide +kernel
theorem dX0_lorriesAheadOf_59 : decode cX0_lorriesAheadOf 59 = .ok (.ireturn, 1) := by decide +kernel
set_option maxRecDepth 20000 in
theorem ggX0_lorriesInYard_Jx4a65c_size_8abf5 : GoodIn wsX0_lorriesInYard wsJx4a65c_size_8abf5 := goodIn_r _ [8, 9, 47, 48, 49] (by decide +kernel) (by decide +kernel)
set_option maxRecDepth 20000 in
theorem gX0_lorriesInYard_Jx4a65c_size_8abf5 : GoodIn wsX0_lorriesInYard (wsV RX0 30 RJx4a65c yJx4a65c_size_8abf5 wsJx4a65c_size_8abf5) := goodIn_app (goodIn_of _ (by decide +kernel)) ggX0_lorriesInYard_Jx4a65c_size_8abf5
set_option maxRecDepth 20000 in
theorem ggX0_lorriesInYard_Jx4a65c_get_915e3 : GoodIn wsX0_lorriesInYard wsJx4a65c_get_915e3 := goodIn_r _ [13, 9, 14, 15, 16, 17, 18, 19, 20, 21, 22, 23, 24, 7, 25, 26, 47, 48, 49] (by decide +kernel) (by decide +kernel)
set_option maxRecDepth 20000 in
theorem gX0_lorriesInYard_Jx4a65c_get_915e3 : GoodIn wsX0_lorriesInYard (wsV RX0 41 RJx4a65c yJx4a65c_get_915e3 wsJx4a65c_get_915e3) := goodIn_app (goodIn_of _ (by decide +kernel)) ggX0_lorriesInYard_Jx4a65c_get_915e3
theorem dX0_lorriesInYard_0 : decode cX0_lorriesInYard 0 = .ok (.iconst 0, 1) := by decide +kernel
theorem dX0_lorriesInYard_1 : decode cX0_lorriesInYard 1 = .ok (.istore_n 1, 1) := by decide +kernel
theorem dX0_lorriesInYard_2 : decode cX0_lorriesInYard 2 = .ok (.iconst 0, 1) := by decide +kernel
theorem dX0_lorriesInYard_3 : decode cX0_lorriesInYard 3 = .ok (.istore_n 2, 1) := by decide +kernel
theorem dX0_lorriesInYard_4 : decode cX0_lorriesInYard 4 = .ok (.iload_n 2, 1) := by decide +kernel
theorem dX0_lorriesInYard_5 : decode cX0_lorriesInYard 5 = .ok (.aload_n 0, 1) := by decide +kernel
theorem dX0_lorriesInYard_6 : decode cX0_lorriesInYard 6 = .ok (.getfield 12, 3) := by decide +kernel
theorem dX0_lorriesInYard_9 : decode cX0_lorriesInYard 9 = .ok (.invokevirtual 30, 3) := by decide +kernel
theorem dX0_lorriesInYard_12 : decode cX0_lorriesInYard 12 = .ok (.if_icmp .ge 31, 3) := by decide +kernel
theorem dX0_lorriesInYard_15 : decode cX0_lorriesInYard 15 = .ok (.aload_n 0, 1) := by decide +kernel
theorem dX0_lorriesInYard_16 : decode cX0_lorriesInYard 16 = .ok (.getfield 12, 3) := by decide +kernel
theorem dX0_lorriesInYard_19 : decode cX0_lorriesInYard 19 = .ok (.iload_n 2, 1) := by decide +kernel
theorem dX0_lorriesInYard_20 : decode cX0_lorriesInYard 20 = .ok (.invokevirtual 41, 3) := by decide +kernel
theorem dX0_lorriesInYard_23 : decode cX0_lorriesInYard 23 = .ok (.checkcast 24, 3) := by decide +kernel
theorem dX0_lorriesInYard_26 : decode cX0_lorriesInYard 26 = .ok (.getfield 154, 3) := by decide +kernel
theorem dX0_lorriesInYard_29 : decode cX0_lorriesInYard 29 = .ok (.bipush 121, 2) := by decide +kernel
theorem dX0_lorriesInYard_31 : decode cX0_lorriesInYard 31 = .ok (.if_icmp .ne 6, 3) := by decide +kernel
theorem dX0_lorriesInYard_34 : decode cX0_lorriesInYard 34 = .ok (.iinc 1 1, 3) := by decide +kernel
theorem dX0_lorriesInYard_37 : decode cX0_lorriesInYard 37 = .ok (.iinc 2 1, 3) := by decide +kernel
theorem dX0_lorriesInYard_40 : decode cX0_lorriesInYard 40 = .ok (.goto (-36), 3) := by decide +kernel
theorem dX0_lorriesInYard_43 : decode cX0_lorriesInYard 43 = .ok (.iload_n 1, 1) := by decide +kernel
theorem dX0_lorriesInYard_44 : decode cX0_lorriesInYard 44 = .ok (.ireturn, 1) := by decide +kernel
set_option maxRecDepth 20000 in
theorem ggX0_openUnits_Jx4a65c_size_8abf5 : GoodIn wsX0_openUnits wsJx4a65c_size_8abf5 := goodIn_r _ [7, 8, 46, 47, 48] (by decide +kernel) (by decide +kernel)
set_option maxRecDepth 20000 in
theorem gX0_openUnits_Jx4a65c_size_8abf5 : GoodIn wsX0_openUnits (wsV RX0 30 RJx4a65c yJx4a65c_size_8abf5 wsJx4a65c_size_8abf5) := goodIn_app (goodIn_of _ (by decide +kernel)) ggX0_openUnits_Jx4a65c_size_8abf5
set_option maxRecDepth 20000 in
theorem ggX0_openUnits_Jx4a65c_get_915e3 : GoodIn wsX0_openUnits wsJx4a65c_get_915e3 := goodIn_r _ [12, 8, 13, 14, 15, 16, 17, 18, 19, 20, 21, 22, 23, 6, 24, 25, 46, 47, 48] (by decide +kernel) (by decide +kernel)
set_option maxRecDepth 20000 in
theorem gX0_openUnits_Jx4a65c_get_915e3 : GoodIn wsX0_openUnits (wsV RX0 41 RJx4a65c yJx4a65c_get_915e3 wsJx4a65c_get_915e3) := goodIn_app (goodIn_of _ (by decide +kernel)) ggX0_openUnits_Jx4a65c_get_915e3
set_option maxRecDepth 20000 in
theorem ggX0_openUnits_X5_isOf : GoodIn wsX0_openUnits wsX5_isOf := goodIn_r _ [30, 31, 32, 49, 50, 51, 52, 53, 54, 55] (by decide +kernel) (by decide +kernel)
set_option maxRecDepth 20000 in
theorem gX0_openUnits_X5_isOf : GoodIn wsX0_openUnits (wsV RX0 165 RX5 yX5_isOf wsX5_isOf) := goodIn_app (goodIn_of _ (by decide +kernel)) ggX0_openUnits_X5_isOf
set_option maxRecDepth 20000 in
theorem ggX0_openUnits_X5_openFor : GoodIn wsX0_openUnits wsX5_openFor := goodIn_r _ [36, 37, 38, 39, 40, 56, 57, 58, 59, 60, 61, 62, 63, 64, 65, 66, 67, 68, 69, 70, 49, 50, 51, 52, 53, 54, 55] (by decide +kernel) (by decide +kernel)
set_option maxRecDepth 20000 in
theorem gX0_openUnits_X5_openFor : GoodIn wsX0_openUnits (wsV RX0 257 RX5 yX5_openFor wsX5_openFor) := goodIn_app (goodIn_of _ (by decide +kernel)) ggX0_openUnits_X5_openFor
theorem dX0_openUnits_0 : decode cX0_openUnits 0 = .ok (.iconst 0, 1) := by decide +kernel
theorem dX0_openUnits_1 : decode cX0_openUnits 1 = .ok (.istore_n 2, 1) := by decide +kernel
theorem dX0_openUnits_2 : decode cX0_openUnits 2 = .ok (.iconst 0, 1) := by decide +kernel
theorem dX0_openUnits_3 : decode cX0_openUnits 3 = .ok (.istore_n 3, 1) := by decide +kernel
theorem dX0_openUnits_4 : decode cX0_openUnits 4 = .ok (.iload_n 3, 1) := by decide +kernel
theorem dX0_openUnits_5 : decode cX0_openUnits 5 = .ok (.aload_n 0, 1) := by decide +kernel
theorem dX0_openUnits_6 : decode cX0_openUnits 6 = .ok (.getfield 18, 3) := by decide +kernel
theorem dX0_openUnits_9 : decode cX0_openUnits 9 = .ok (.invokevirtual 30, 3) := by decide +kernel
theorem dX0_openUnits_12 : decode cX0_openUnits 12 = .ok (.if_icmp .ge 40, 3) := by decide +kernel
theorem dX0_openUnits_15 : decode cX0_openUnits 15 = .ok (.aload_n 0, 1) := by decide +kernel
theorem dX0_openUnits_16 : decode cX0_openUnits 16 = .ok (.getfield 18, 3) := by decide +kernel
theorem dX0_openUnits_19 : decode cX0_openUnits 19 = .ok (.iload_n 3, 1) := by decide +kernel
theorem dX0_openUnits_20 : decode cX0_openUnits 20 = .ok (.invokevirtual 41, 3) := by decide +kernel
theorem dX0_openUnits_23 : decode cX0_openUnits 23 = .ok (.checkcast 47, 3) := by decide +kernel
theorem dX0_openUnits_26 : decode cX0_openUnits 26 = .ok (.astore 4, 2) := by decide +kernel
theorem dX0_openUnits_28 : decode cX0_openUnits 28 = .ok (.aload 4, 2) := by decide +kernel
theorem dX0_openUnits_30 : decode cX0_openUnits 30 = .ok (.aload_n 1, 1) := by decide +kernel
theorem dX0_openUnits_31 : decode cX0_openUnits 31 = .ok (.invokevirtual 165, 3) := by decide +kernel
theorem dX0_openUnits_34 : decode cX0_openUnits 34 = .ok (.ifCond .eq 12, 3) := by decide +kernel
theorem dX0_openUnits_37 : decode cX0_openUnits 37 = .ok (.iload_n 2, 1) := by decide +kernel
theorem dX0_openUnits_38 : decode cX0_openUnits 38 = .ok (.aload 4, 2) := by decide +kernel
theorem dX0_openUnits_40 : decode cX0_openUnits 40 = .ok (.aload_n 1, 1) := by decide +kernel
theorem dX0_openUnits_41 : decode cX0_openUnits 41 = .ok (.invokevirtual 257, 3) := by decide +kernel
theorem dX0_openUnits_44 : decode cX0_openUnits 44 = .ok (.iadd, 1) := by decide +kernel
theorem dX0_openUnits_45 : decode cX0_openUnits 45 = .ok (.istore_n 2, 1) := by decide +kernel
theorem dX0_openUnits_46 : decode cX0_openUnits 46 = .ok (.iinc 3 1, 3) := by decide +kernel
theorem dX0_openUnits_49 : decode cX0_openUnits 49 = .ok (.goto (-45), 3) := by decide +kernel
theorem dX0_openUnits_52 : decode cX0_openUnits 52 = .ok (.iload_n 2, 1) := by decide +kernel
theorem dX0_openUnits_53 : decode cX0_openUnits 53 = .ok (.ireturn, 1) := by decide +kernel
set_option maxRecDepth 20000 in
theorem ggX0_unitsLeftBehind_Jx4a65c_size_8abf5 : GoodIn wsX0_unitsLeftBehind wsJx4a65c_size_8abf5 := goodIn_r _ [11, 12, 57, 58, 59] (by decide +kernel) (by decide +kernel)
set_option maxRecDepth 20000 in
theorem gX0_unitsLeftBehind_Jx4a65c_size_8abf5 : GoodIn wsX0_unitsLeftBehind (wsV RX0 30 RJx4a65c yJx4a65c_size_8abf5 wsJx4a65c_size_8abf5) := goodIn_app (goodIn_of _ (by decide +kernel)) ggX0_unitsLeftBehind_Jx4a65c_size_8abf5
set_option maxRecDepth 20000 in
theorem ggX0_unitsLeftBehind_Jx4a65c_get_915e3 : GoodIn wsX0_unitsLeftBehind wsJx4a65c_get_915e3 := goodIn_r _ [16, 12, 17, 18, 19, 20, 21, 22, 23, 24, 25, 26, 27, 10, 28, 29, 57, 58, 59] (by decide +kernel) (by decide +kernel)
set_option maxRecDepth 20000 in
theorem gX0_unitsLeftBehind_Jx4a65c_get_915e3 : GoodIn wsX0_unitsLeftBehind (wsV RX0 41 RJx4a65c yJx4a65c_get_915e3 wsJx4a65c_get_915e3) := goodIn_app (goodIn_of _ (by decide +kernel)) ggX0_unitsLeftBehind_Jx4a65c_get_915e3
theorem dX0_unitsLeftBehind_0 : decode cX0_unitsLeftBehind 0 = .ok (.iconst 0, 1) := by decide +kernel
theorem dX0_unitsLeftBehind_1 : decode cX0_unitsLeftBehind 1 = .ok (.istore_n 1, 1) := by decide +kernel
theorem dX0_unitsLeftBehind_2 : decode cX0_unitsLeftBehind 2 = .ok (.iconst 0, 1) := by decide +kernel
theorem dX0_unitsLeftBehind_3 : decode cX0_unitsLeftBehind 3 = .ok (.istore_n 2, 1) := by decide +kernel
theorem dX0_unitsLeftBehind_4 : decode cX0_unitsLeftBehind 4 = .ok (.iload_n 2, 1) := by decide +kernel
theorem dX0_unitsLeftBehind_5 : decode cX0_unitsLeftBehind 5 = .ok (.aload_n 0, 1) := by decide +kernel
theorem dX0_unitsLeftBehind_6 : decode cX0_unitsLeftBehind 6 = .ok (.getfield 18, 3) := by decide +kernel
theorem dX0_unitsLeftBehind_9 : decode cX0_unitsLeftBehind 9 = .ok (.invokevirtual 30, 3) := by decide +kernel
theorem dX0_unitsLeftBehind_12 : decode cX0_unitsLeftBehind 12 = .ok (.if_icmp .ge 45, 3) := by decide +kernel
theorem dX0_unitsLeftBehind_15 : decode cX0_unitsLeftBehind 15 = .ok (.aload_n 0, 1) := by decide +kernel
theorem dX0_unitsLeftBehind_16 : decode cX0_unitsLeftBehind 16 = .ok (.getfield 18, 3) := by decide +kernel
theorem dX0_unitsLeftBehind_19 : decode cX0_unitsLeftBehind 19 = .ok (.iload_n 2, 1) := by decide +kernel
theorem dX0_unitsLeftBehind_20 : decode cX0_unitsLeftBehind 20 = .ok (.invokevirtual 41, 3) := by decide +kernel
theorem dX0_unitsLeftBehind_23 : decode cX0_unitsLeftBehind 23 = .ok (.checkcast 47, 3) := by decide +kernel
theorem dX0_unitsLeftBehind_26 : decode cX0_unitsLeftBehind 26 = .ok (.astore_n 3, 1) := by decide +kernel
theorem dX0_unitsLeftBehind_27 : decode cX0_unitsLeftBehind 27 = .ok (.aload_n 3, 1) := by decide +kernel
theorem dX0_unitsLeftBehind_28 : decode cX0_unitsLeftBehind 28 = .ok (.getfield 199, 3) := by decide +kernel
theorem dX0_unitsLeftBehind_31 : decode cX0_unitsLeftBehind 31 = .ok (.getfield 154, 3) := by decide +kernel
theorem dX0_unitsLeftBehind_34 : decode cX0_unitsLeftBehind 34 = .ok (.bipush 108, 2) := by decide +kernel
theorem dX0_unitsLeftBehind_36 : decode cX0_unitsLeftBehind 36 = .ok (.if_icmp .ne 15, 3) := by decide +kernel
theorem dX0_unitsLeftBehind_39 : decode cX0_unitsLeftBehind 39 = .ok (.iload_n 1, 1) := by decide +kernel
theorem dX0_unitsLeftBehind_40 : decode cX0_unitsLeftBehind 40 = .ok (.aload_n 3, 1) := by decide +kernel
theorem dX0_unitsLeftBehind_41 : decode cX0_unitsLeftBehind 41 = .ok (.getfield 206, 3) := by decide +kernel
theorem dX0_unitsLeftBehind_44 : decode cX0_unitsLeftBehind 44 = .ok (.aload_n 3, 1) := by decide +kernel
theorem dX0_unitsLeftBehind_45 : decode cX0_unitsLeftBehind 45 = .ok (.getfield 260, 3) := by decide +kernel
theorem dX0_unitsLeftBehind_48 : decode cX0_unitsLeftBehind 48 = .ok (.isub, 1) := by decide +kernel
theorem dX0_unitsLeftBehind_49 : decode cX0_unitsLeftBehind 49 = .ok (.iadd, 1) := by decide +kernel
theorem dX0_unitsLeftBehind_50 : decode cX0_unitsLeftBehind 50 = .ok (.istore_n 1, 1) := by decide +kernel
theorem dX0_unitsLeftBehind_51 : decode cX0_unitsLeftBehind 51 = .ok (.iinc 2 1, 3) := by decide +kernel
theorem dX0_unitsLeftBehind_54 : decode cX0_unitsLeftBehind 54 = .ok (.goto (-50), 3) := by decide +kernel
theorem dX0_unitsLeftBehind_57 : decode cX0_unitsLeftBehind 57 = .ok (.iload_n 1, 1) := by decide +kernel
theorem dX0_unitsLeftBehind_58 : decode cX0_unitsLeftBehind 58 = .ok (.ireturn, 1) := by decide +kernel
set_option maxRecDepth 20000 in
theorem ggX0_waysOfTransfers_Jx4a65c_size_8abf5 : GoodIn wsX0_waysOfTransfers wsJx4a65c_size_8abf5 := goodIn_r _ [7, 8, 43, 44, 45] (by decide +kernel) (by decide +kernel)
set_option maxRecDepth 20000 in
theorem gX0_waysOfTransfers_Jx4a65c_size_8abf5 : GoodIn wsX0_waysOfTransfers (wsV RX0 30 RJx4a65c yJx4a65c_size_8abf5 wsJx4a65c_size_8abf5) := goodIn_app (goodIn_of _ (by decide +kernel)) ggX0_waysOfTransfers_Jx4a65c_size_8abf5
set_option maxRecDepth 20000 in
theorem ggX0_waysOfTransfers_Jx4a65c_get_915e3 : GoodIn wsX0_waysOfTransfers wsJx4a65c_get_915e3 := goodIn_r _ [12, 8, 13, 14, 15, 16, 17, 18, 19, 20, 21, 22, 23, 6, 24, 25, 43, 44, 45] (by decide +kernel) (by decide +kernel)
set_option maxRecDepth 20000 in
theorem gX0_waysOfTransfers_Jx4a65c_get_915e3 : GoodIn wsX0_waysOfTransfers (wsV RX0 41 RJx4a65c yJx4a65c_get_915e3 wsJx4a65c_get_915e3) := goodIn_app (goodIn_of _ (by decide +kernel)) ggX0_waysOfTransfers_Jx4a65c_get_915e3
set_option maxRecDepth 20000 in
theorem ggX0_waysOfTransfers_X5_way : GoodIn wsX0_waysOfTransfers wsX5_way := goodIn_r _ [30, 31, 32, 33, 34, 35, 36, 37, 46, 47, 48, 49, 50, 51, 52, 53, 54, 55, 56, 57, 58, 59, 60, 61, 62, 63, 64, 65, 66, 67] (by decide +kernel) (by decide +kernel)
set_option maxRecDepth 20000 in
theorem gX0_waysOfTransfers_X5_way : GoodIn wsX0_waysOfTransfers (wsV RX0 263 RX5 yX5_way wsX5_way) := goodIn_app (goodIn_of _ (by decide +kernel)) ggX0_waysOfTransfers_X5_way
theorem dX0_waysOfTransfers_0 : decode cX0_waysOfTransfers 0 = .ok (.iconst 0, 1) := by decide +kernel
theorem dX0_waysOfTransfers_1 : decode cX0_waysOfTransfers 1 = .ok (.istore_n 1, 1) := by decide +kernel
theorem dX0_waysOfTransfers_2 : decode cX0_waysOfTransfers 2 = .ok (.iconst 0, 1) := by decide +kernel
theorem dX0_waysOfTransfers_3 : decode cX0_waysOfTransfers 3 = .ok (.istore_n 2, 1) := by decide +kernel
theorem dX0_waysOfTransfers_4 : decode cX0_waysOfTransfers 4 = .ok (.iload_n 2, 1) := by decide +kernel
theorem dX0_waysOfTransfers_5 : decode cX0_waysOfTransfers 5 = .ok (.aload_n 0, 1) := by decide +kernel
theorem dX0_waysOfTransfers_6 : decode cX0_waysOfTransfers 6 = .ok (.getfield 18, 3) := by decide +kernel
theorem dX0_waysOfTransfers_9 : decode cX0_waysOfTransfers 9 = .ok (.invokevirtual 30, 3) := by decide +kernel
theorem dX0_waysOfTransfers_12 : decode cX0_waysOfTransfers 12 = .ok (.if_icmp .ge 26, 3) := by decide +kernel
theorem dX0_waysOfTransfers_15 : decode cX0_waysOfTransfers 15 = .ok (.iload_n 1, 1) := by decide +kernel
theorem dX0_waysOfTransfers_16 : decode cX0_waysOfTransfers 16 = .ok (.aload_n 0, 1) := by decide +kernel
theorem dX0_waysOfTransfers_17 : decode cX0_waysOfTransfers 17 = .ok (.getfield 18, 3) := by decide +kernel
theorem dX0_waysOfTransfers_20 : decode cX0_waysOfTransfers 20 = .ok (.iload_n 2, 1) := by decide +kernel
theorem dX0_waysOfTransfers_21 : decode cX0_waysOfTransfers 21 = .ok (.invokevirtual 41, 3) := by decide +kernel
theorem dX0_waysOfTransfers_24 : decode cX0_waysOfTransfers 24 = .ok (.checkcast 47, 3) := by decide +kernel
theorem dX0_waysOfTransfers_27 : decode cX0_waysOfTransfers 27 = .ok (.invokevirtual 263, 3) := by decide +kernel
theorem dX0_waysOfTransfers_30 : decode cX0_waysOfTransfers 30 = .ok (.iadd, 1) := by decide +kernel
theorem dX0_waysOfTransfers_31 : decode cX0_waysOfTransfers 31 = .ok (.istore_n 1, 1) := by decide +kernel
theorem dX0_waysOfTransfers_32 : decode cX0_waysOfTransfers 32 = .ok (.iinc 2 1, 3) := by decide +kernel
theorem dX0_waysOfTransfers_35 : decode cX0_waysOfTransfers 35 = .ok (.goto (-31), 3) := by decide +kernel
theorem dX0_waysOfTransfers_38 : decode cX0_waysOfTransfers 38 = .ok (.iload_n 1, 1) := by decide +kernel
theorem dX0_waysOfTransfers_39 : decode cX0_waysOfTransfers 39 = .ok (.ireturn, 1) := by decide +kernel
set_option maxRecDepth 20000 in
theorem ggX0_minutesWaited_Jx4a65c_size_8abf5 : GoodIn wsX0_minutesWaited wsJx4a65c_size_8abf5 := goodIn_r _ [8, 9, 47, 48, 49] (by decide +kernel) (by decide +kernel)
set_option maxRecDepth 20000 in
theorem gX0_minutesWaited_Jx4a65c_size_8abf5 : GoodIn wsX0_minutesWaited (wsV RX0 30 RJx4a65c yJx4a65c_size_8abf5 wsJx4a65c_size_8abf5) := goodIn_app (goodIn_of _ (by decide +kernel)) ggX0_minutesWaited_Jx4a65c_size_8abf5
set_option maxRecDepth 20000 in
theorem ggX0_minutesWaited_Jx4a65c_get_915e3 : GoodIn wsX0_minutesWaited wsJx4a65c_get_915e3 := goodIn_r _ [13, 9, 14, 15, 16, 17, 18, 19, 20, 21, 22, 23, 24, 7, 25, 26, 47, 48, 49] (by decide +kernel) (by decide +kernel)
set_option maxRecDepth 20000 in
theorem gX0_minutesWaited_Jx4a65c_get_915e3 : GoodIn wsX0_minutesWaited (wsV RX0 41 RJx4a65c yJx4a65c_get_915e3 wsJx4a65c_get_915e3) := goodIn_app (goodIn_of _ (by decide +kernel)) ggX0_minutesWaited_Jx4a65c_get_915e3
theorem dX0_minutesWaited_0 : decode cX0_minutesWaited 0 = .ok (.iconst 0, 1) := by decide +kernel
theorem dX0_minutesWaited_1 : decode cX0_minutesWaited 1 = .ok (.istore_n 1, 1) := by decide +kernel
theorem dX0_minutesWaited_2 : decode cX0_minutesWaited 2 = .ok (.iconst 0, 1) := by decide +kernel
theorem dX0_minutesWaited_3 : decode cX0_minutesWaited 3 = .ok (.istore_n 2, 1) := by decide +kernel
theorem dX0_minutesWaited_4 : decode cX0_minutesWaited 4 = .ok (.iload_n 2, 1) := by decide +kernel
theorem dX0_minutesWaited_5 : decode cX0_minutesWaited 5 = .ok (.aload_n 0, 1) := by decide +kernel
theorem dX0_minutesWaited_6 : decode cX0_minutesWaited 6 = .ok (.getfield 12, 3) := by decide +kernel
theorem dX0_minutesWaited_9 : decode cX0_minutesWaited 9 = .ok (.invokevirtual 30, 3) := by decide +kernel
theorem dX0_minutesWaited_12 : decode cX0_minutesWaited 12 = .ok (.if_icmp .ge 26, 3) := by decide +kernel
theorem dX0_minutesWaited_15 : decode cX0_minutesWaited 15 = .ok (.iload_n 1, 1) := by decide +kernel
theorem dX0_minutesWaited_16 : decode cX0_minutesWaited 16 = .ok (.aload_n 0, 1) := by decide +kernel
theorem dX0_minutesWaited_17 : decode cX0_minutesWaited 17 = .ok (.getfield 12, 3) := by decide +kernel
theorem dX0_minutesWaited_20 : decode cX0_minutesWaited 20 = .ok (.iload_n 2, 1) := by decide +kernel
theorem dX0_minutesWaited_21 : decode cX0_minutesWaited 21 = .ok (.invokevirtual 41, 3) := by decide +kernel
theorem dX0_minutesWaited_24 : decode cX0_minutesWaited 24 = .ok (.checkcast 24, 3) := by decide +kernel
theorem dX0_minutesWaited_27 : decode cX0_minutesWaited 27 = .ok (.getfield 266, 3) := by decide +kernel
theorem dX0_minutesWaited_30 : decode cX0_minutesWaited 30 = .ok (.iadd, 1) := by decide +kernel
theorem dX0_minutesWaited_31 : decode cX0_minutesWaited 31 = .ok (.istore_n 1, 1) := by decide +kernel
theorem dX0_minutesWaited_32 : decode cX0_minutesWaited 32 = .ok (.iinc 2 1, 3) := by decide +kernel
theorem dX0_minutesWaited_35 : decode cX0_minutesWaited 35 = .ok (.goto (-31), 3) := by decide +kernel
theorem dX0_minutesWaited_38 : decode cX0_minutesWaited 38 = .ok (.iload_n 1, 1) := by decide +kernel
theorem dX0_minutesWaited_39 : decode cX0_minutesWaited 39 = .ok (.ireturn, 1) := by decide +kernel
set_option maxRecDepth 20000 in
theorem ggX0_minutesOfTheDock_Jx4a65c_size_8abf5 : GoodIn wsX0_minutesOfTheDock wsJx4a65c_size_8abf5 := goodIn_r _ [7, 8, 37, 38, 39] (by decide +kernel) (by decide +kernel)
set_option maxRecDepth 20000 in
theorem gX0_minutesOfTheDock_Jx4a65c_size_8abf5 : GoodIn wsX0_minutesOfTheDock (wsV RX0 30 RJx4a65c yJx4a65c_size_8abf5 wsJx4a65c_size_8abf5) := goodIn_app (goodIn_of _ (by decide +kernel)) ggX0_minutesOfTheDock_Jx4a65c_size_8abf5
set_option maxRecDepth 20000 in
theorem ggX0_minutesOfTheDock_Jx4a65c_get_915e3 : GoodIn wsX0_minutesOfTheDock wsJx4a65c_get_915e3 := goodIn_r _ [12, 8, 13, 14, 15, 16, 17, 18, 19, 20, 21, 22, 23, 6, 24, 25, 37, 38, 39] (by decide +kernel) (by decide +kernel)
set_option maxRecDepth 20000 in
theorem gX0_minutesOfTheDock_Jx4a65c_get_915e3 : GoodIn wsX0_minutesOfTheDock (wsV RX0 41 RJx4a65c yJx4a65c_get_915e3 wsJx4a65c_get_915e3) := goodIn_app (goodIn_of _ (by decide +kernel)) ggX0_minutesOfTheDock_Jx4a65c_get_915e3
set_option maxRecDepth 20000 in
theorem ggX0_minutesOfTheDock_X3_minutesFrom : GoodIn wsX0_minutesOfTheDock wsX3_minutesFrom := goodIn_ca (goodIn_r _ [30, 31, 40, 41, 42, 43, 44, 45, 46, 47, 48, 49, 50, 51, 52, 53, 54] (by decide +kernel) (by decide +kernel)) (goodIn_sub (fun _ h => List.mem_cons_of_mem _ (List.mem_append_right _ h)) (by decide +kernel))
set_option maxRecDepth 20000 in
theorem gX0_minutesOfTheDock_X3_minutesFrom : GoodIn wsX0_minutesOfTheDock (wsV RX0 269 RX3 yX3_minutesFrom wsX3_minutesFrom) := goodIn_app (goodIn_of _ (by decide +kernel)) ggX0_minutesOfTheDock_X3_minutesFrom
theorem dX0_minutesOfTheDock_0 : decode cX0_minutesOfTheDock 0 = .ok (.iconst 0, 1) := by decide +kernel
theorem dX0_minutesOfTheDock_1 : decode cX0_minutesOfTheDock 1 = .ok (.istore_n 1, 1) := by decide +kernel
theorem dX0_minutesOfTheDock_2 : decode cX0_minutesOfTheDock 2 = .ok (.iconst 0, 1) := by decide +kernel
theorem dX0_minutesOfTheDock_3 : decode cX0_minutesOfTheDock 3 = .ok (.istore_n 2, 1) := by decide +kernel
theorem dX0_minutesOfTheDock_4 : decode cX0_minutesOfTheDock 4 = .ok (.iload_n 2, 1) := by decide +kernel
theorem dX0_minutesOfTheDock_5 : decode cX0_minutesOfTheDock 5 = .ok (.aload_n 0, 1) := by decide +kernel
theorem dX0_minutesOfTheDock_6 : decode cX0_minutesOfTheDock 6 = .ok (.getfield 12, 3) := by decide +kernel
theorem dX0_minutesOfTheDock_9 : decode cX0_minutesOfTheDock 9 = .ok (.invokevirtual 30, 3) := by decide +kernel
theorem dX0_minutesOfTheDock_12 : decode cX0_minutesOfTheDock 12 = .ok (.if_icmp .ge 27, 3) := by decide +kernel
theorem dX0_minutesOfTheDock_15 : decode cX0_minutesOfTheDock 15 = .ok (.iload_n 1, 1) := by decide +kernel
theorem dX0_minutesOfTheDock_16 : decode cX0_minutesOfTheDock 16 = .ok (.aload_n 0, 1) := by decide +kernel
theorem dX0_minutesOfTheDock_17 : decode cX0_minutesOfTheDock 17 = .ok (.getfield 12, 3) := by decide +kernel
theorem dX0_minutesOfTheDock_20 : decode cX0_minutesOfTheDock 20 = .ok (.iload_n 2, 1) := by decide +kernel
theorem dX0_minutesOfTheDock_21 : decode cX0_minutesOfTheDock 21 = .ok (.invokevirtual 41, 3) := by decide +kernel
theorem dX0_minutesOfTheDock_24 : decode cX0_minutesOfTheDock 24 = .ok (.checkcast 24, 3) := by decide +kernel
theorem dX0_minutesOfTheDock_27 : decode cX0_minutesOfTheDock 27 = .ok (.iconst (-1), 1) := by decide +kernel
theorem dX0_minutesOfTheDock_28 : decode cX0_minutesOfTheDock 28 = .ok (.invokevirtual 269, 3) := by decide +kernel
theorem dX0_minutesOfTheDock_31 : decode cX0_minutesOfTheDock 31 = .ok (.iadd, 1) := by decide +kernel
theorem dX0_minutesOfTheDock_32 : decode cX0_minutesOfTheDock 32 = .ok (.istore_n 1, 1) := by decide +kernel
theorem dX0_minutesOfTheDock_33 : decode cX0_minutesOfTheDock 33 = .ok (.iinc 2 1, 3) := by decide +kernel
theorem dX0_minutesOfTheDock_36 : decode cX0_minutesOfTheDock 36 = .ok (.goto (-32), 3) := by decide +kernel
theorem dX0_minutesOfTheDock_39 : decode cX0_minutesOfTheDock 39 = .ok (.iload_n 1, 1) := by decide +kernel
theorem dX0_minutesOfTheDock_40 : decode cX0_minutesOfTheDock 40 = .ok (.ireturn, 1) := by decide +kernel
set_option maxRecDepth 20000 in
theorem ggX0_balanceOf_Jx4a65c_size_8abf5 : GoodIn wsX0_balanceOf wsJx4a65c_size_8abf5 := goodIn_r _ [7, 8, 47, 48, 49] (by decide +kernel) (by decide +kernel)
set_option maxRecDepth 20000 in
theorem gX0_balanceOf_Jx4a65c_size_8abf5 : GoodIn wsX0_balanceOf (wsV RX0 30 RJx4a65c yJx4a65c_size_8abf5 wsJx4a65c_size_8abf5) := goodIn_app (goodIn_of _ (by decide +kernel)) ggX0_balanceOf_Jx4a65c_size_8abf5
set_option maxRecDepth 20000 in
theorem ggX0_balanceOf_Jx4a65c_get_915e3 : GoodIn wsX0_balanceOf wsJx4a65c_get_915e3 := goodIn_r _ [12, 8, 13, 14, 15, 16, 17, 18, 19, 20, 21, 22, 23, 6, 24, 25, 47, 48, 49] (by decide +kernel) (by decide +kernel)
set_option maxRecDepth 20000 in
theorem gX0_balanceOf_Jx4a65c_get_915e3 : GoodIn wsX0_balanceOf (wsV RX0 41 RJx4a65c yJx4a65c_get_915e3 wsJx4a65c_get_915e3) := goodIn_app (goodIn_of _ (by decide +kernel)) ggX0_balanceOf_Jx4a65c_get_915e3
set_option maxRecDepth 20000 in
theorem ggX0_balanceOf_X3_centsFrom : GoodIn wsX0_balanceOf wsX3_centsFrom := goodIn_ca (goodIn_r _ [30, 31, 32, 33, 34, 29, 35, 36, 50, 51, 52, 53, 54, 55, 56, 57, 58, 59, 60, 61, 62, 63, 64] (by decide +kernel) (by decide +kernel)) (goodIn_sub (fun _ h => List.mem_cons_of_mem _ (List.mem_append_right _ h)) (by decide +kernel))
set_option maxRecDepth 20000 in
theorem gX0_balanceOf_X3_centsFrom : GoodIn wsX0_balanceOf (wsV RX0 272 RX3 yX3_centsFrom wsX3_centsFrom) := goodIn_app (goodIn_of _ (by decide +kernel)) ggX0_balanceOf_X3_centsFrom
set_option maxRecDepth 20000 in
theorem ggX0_balanceOf_X0_owedCents : GoodIn wsX0_balanceOf wsX0_owedCents := goodIn_ca (goodIn_r _ [41, 1, 3, 4, 5, 6, 7, 8, 26, 27, 28, 29, 30, 31, 32, 33, 34, 35, 36, 42, 43, 44, 45, 46, 47, 48, 49, 50, 51, 52, 53, 54, 55, 56, 57, 58, 59, 60, 61, 62, 63, 64] (by decide +kernel) (by decide +kernel)) (goodIn_sub (fun _ h => List.mem_cons_of_mem _ (List.mem_append_right _ h)) (by decide +kernel))
set_option maxRecDepth 20000 in
theorem gX0_balanceOf_X0_owedCents : GoodIn wsX0_balanceOf (wsV RX0 275 RX0 yX0_owedCents wsX0_owedCents) := goodIn_app (goodIn_of _ (by decide +kernel)) ggX0_balanceOf_X0_owedCents
theorem dX0_balanceOf_0 : decode cX0_balanceOf 0 = .ok (.lconst 0, 1) := by decide +kernel
theorem dX0_balanceOf_1 : decode cX0_balanceOf 1 = .ok (.lstore_n 2, 1) := by decide +kernel
theorem dX0_balanceOf_2 : decode cX0_balanceOf 2 = .ok (.iconst 0, 1) := by decide +kernel
theorem dX0_balanceOf_3 : decode cX0_balanceOf 3 = .ok (.istore 4, 2) := by decide +kernel
theorem dX0_balanceOf_5 : decode cX0_balanceOf 5 = .ok (.iload 4, 2) := by decide +kernel
theorem dX0_balanceOf_7 : decode cX0_balanceOf 7 = .ok (.aload_n 0, 1) := by decide +kernel
theorem dX0_balanceOf_8 : decode cX0_balanceOf 8 = .ok (.getfield 12, 3) := by decide +kernel
theorem dX0_balanceOf_11 : decode cX0_balanceOf 11 = .ok (.invokevirtual 30, 3) := by decide +kernel
theorem dX0_balanceOf_14 : decode cX0_balanceOf 14 = .ok (.if_icmp .ge 48, 3) := by decide +kernel
theorem dX0_balanceOf_17 : decode cX0_balanceOf 17 = .ok (.aload_n 0, 1) := by decide +kernel
theorem dX0_balanceOf_18 : decode cX0_balanceOf 18 = .ok (.getfield 12, 3) := by decide +kernel
theorem dX0_balanceOf_21 : decode cX0_balanceOf 21 = .ok (.iload 4, 2) := by decide +kernel
theorem dX0_balanceOf_23 : decode cX0_balanceOf 23 = .ok (.invokevirtual 41, 3) := by decide +kernel
theorem dX0_balanceOf_26 : decode cX0_balanceOf 26 = .ok (.checkcast 24, 3) := by decide +kernel
theorem dX0_balanceOf_29 : decode cX0_balanceOf 29 = .ok (.astore 5, 2) := by decide +kernel
theorem dX0_balanceOf_31 : decode cX0_balanceOf 31 = .ok (.lload_n 2, 1) := by decide +kernel
theorem dX0_balanceOf_32 : decode cX0_balanceOf 32 = .ok (.aload 5, 2) := by decide +kernel
theorem dX0_balanceOf_34 : decode cX0_balanceOf 34 = .ok (.iload_n 1, 1) := by decide +kernel
theorem dX0_balanceOf_35 : decode cX0_balanceOf 35 = .ok (.invokevirtual 272, 3) := by decide +kernel
theorem dX0_balanceOf_38 : decode cX0_balanceOf 38 = .ok (.i2l, 1) := by decide +kernel
theorem dX0_balanceOf_39 : decode cX0_balanceOf 39 = .ok (.lsub, 1) := by decide +kernel
theorem dX0_balanceOf_40 : decode cX0_balanceOf 40 = .ok (.lstore_n 2, 1) := by decide +kernel
theorem dX0_balanceOf_41 : decode cX0_balanceOf 41 = .ok (.iload 4, 2) := by decide +kernel
theorem dX0_balanceOf_43 : decode cX0_balanceOf 43 = .ok (.iload_n 1, 1) := by decide +kernel
theorem dX0_balanceOf_44 : decode cX0_balanceOf 44 = .ok (.if_icmp .ne 12, 3) := by decide +kernel
theorem dX0_balanceOf_47 : decode cX0_balanceOf 47 = .ok (.lload_n 2, 1) := by decide +kernel
theorem dX0_balanceOf_48 : decode cX0_balanceOf 48 = .ok (.aload_n 0, 1) := by decide +kernel
theorem dX0_balanceOf_49 : decode cX0_balanceOf 49 = .ok (.aload 5, 2) := by decide +kernel
theorem dX0_balanceOf_51 : decode cX0_balanceOf 51 = .ok (.invokevirtual 275, 3) := by decide +kernel
theorem dX0_balanceOf_54 : decode cX0_balanceOf 54 = .ok (.ladd, 1) := by decide +kernel
theorem dX0_balanceOf_55 : decode cX0_balanceOf 55 = .ok (.lstore_n 2, 1) := by decide +kernel
theorem dX0_balanceOf_56 : decode cX0_balanceOf 56 = .ok (.iinc 4 1, 3) := by decide +kernel
theorem dX0_balanceOf_59 : decode cX0_balanceOf 59 = .ok (.goto (-54), 3) := by decide +kernel
theorem dX0_balanceOf_62 : decode cX0_balanceOf 62 = .ok (.lload_n 2, 1) := by decide +kernel
theorem dX0_balanceOf_63 : decode cX0_balanceOf 63 = .ok (.lreturn, 1) := by decide +kernel
set_option maxRecDepth 20000 in
theorem ggX0_owedCents_Jx4a65c_size_8abf5 : GoodIn wsX0_owedCents wsJx4a65c_size_8abf5 := goodIn_r _ [6, 7, 24, 25, 26] (by decide +kernel) (by decide +kernel)
set_option maxRecDepth 20000 in
theorem gX0_owedCents_Jx4a65c_size_8abf5 : GoodIn wsX0_owedCents (wsV RX0 30 RJx4a65c yJx4a65c_size_8abf5 wsJx4a65c_size_8abf5) := goodIn_app (goodIn_of _ (by decide +kernel)) ggX0_owedCents_Jx4a65c_size_8abf5
set_option maxRecDepth 20000 in
theorem ggX0_owedCents_X3_centsFrom : GoodIn wsX0_owedCents wsX3_centsFrom := goodIn_ca (goodIn_r _ [12, 13, 14, 15, 16, 11, 17, 18, 27, 28, 29, 30, 31, 32, 33, 34, 35, 36, 37, 38, 39, 40, 41] (by decide +kernel) (by decide +kernel)) (goodIn_sub (fun _ h => List.mem_cons_of_mem _ (List.mem_append_right _ h)) (by decide +kernel))
set_option maxRecDepth 20000 in
theorem gX0_owedCents_X3_centsFrom : GoodIn wsX0_owedCents (wsV RX0 272 RX3 yX3_centsFrom wsX3_centsFrom) := goodIn_app (goodIn_of _ (by decide +kernel)) ggX0_owedCents_X3_centsFrom
theorem dX0_owedCents_0 : decode cX0_owedCents 0 = .ok (.lconst 0, 1) := by decide +kernel
theorem dX0_owedCents_1 : decode cX0_owedCents 1 = .ok (.lstore_n 2, 1) := by decide +kernel
theorem dX0_owedCents_2 : decode cX0_owedCents 2 = .ok (.iconst (-1), 1) := by decide +kernel
theorem dX0_owedCents_3 : decode cX0_owedCents 3 = .ok (.istore 4, 2) := by decide +kernel
theorem dX0_owedCents_5 : decode cX0_owedCents 5 = .ok (.iload 4, 2) := by decide +kernel
theorem dX0_owedCents_7 : decode cX0_owedCents 7 = .ok (.aload_n 0, 1) := by decide +kernel
theorem dX0_owedCents_8 : decode cX0_owedCents 8 = .ok (.getfield 12, 3) := by decide +kernel
theorem dX0_owedCents_11 : decode cX0_owedCents 11 = .ok (.invokevirtual 30, 3) := by decide +kernel
theorem dX0_owedCents_14 : decode cX0_owedCents 14 = .ok (.if_icmp .ge 19, 3) := by decide +kernel
theorem dX0_owedCents_17 : decode cX0_owedCents 17 = .ok (.lload_n 2, 1) := by decide +kernel
theorem dX0_owedCents_18 : decode cX0_owedCents 18 = .ok (.aload_n 1, 1) := by decide +kernel
theorem dX0_owedCents_19 : decode cX0_owedCents 19 = .ok (.iload 4, 2) := by decide +kernel
theorem dX0_owedCents_21 : decode cX0_owedCents 21 = .ok (.invokevirtual 272, 3) := by decide +kernel
theorem dX0_owedCents_24 : decode cX0_owedCents 24 = .ok (.i2l, 1) := by decide +kernel
theorem dX0_owedCents_25 : decode cX0_owedCents 25 = .ok (.ladd, 1) := by decide +kernel
theorem dX0_owedCents_26 : decode cX0_owedCents 26 = .ok (.lstore_n 2, 1) := by decide +kernel
theorem dX0_owedCents_27 : decode cX0_owedCents 27 = .ok (.iinc 4 1, 3) := by decide +kernel
theorem dX0_owedCents_30 : decode cX0_owedCents 30 = .ok (.goto (-25), 3) := by decide +kernel
theorem dX0_owedCents_33 : decode cX0_owedCents 33 = .ok (.lload_n 2, 1) := by decide +kernel
theorem dX0_owedCents_34 : decode cX0_owedCents 34 = .ok (.lreturn, 1) := by decide +kernel
