theorem dX8_openSet_30 : decode cX8_openSet 30 = .ok (.iinc 2 1, 3) := by decide +kernel
theorem dX8_openSet_33 : decode cX8_openSet 33 = .ok (.goto (-29), 3) := by decide +kernel
theorem dX8_openSet_36 : decode cX8_openSet 36 = .ok (.iload_n 1, 1) := by decide +kernel
theorem dX8_openSet_37 : decode cX8_openSet 37 = .ok (.ireturn, 1) := by decide +kernel
set_option maxRecDepth 20000 in
theorem ggX8_bestOf_X8_shakenMany : GoodIn wsX8_bestOf wsX8_shakenMany := goodIn_r _ [7, 8, 9, 140, 141, 142, 143, 144, 145, 146, 147, 148, 149, 150, 151, 152, 153, 154, 155, 156, 157, 158, 159, 160, 161, 162, 163, 164, 165, 166, 167, 168, 169, 170, 171, 172, 173, 174, 175, 176, 177, 178, 179, 180, 181, 182, 183] rfl (by decide +kernel)
set_option maxRecDepth 20000 in
theorem gX8_bestOf_X8_shakenMany : GoodIn wsX8_bestOf (wsV RX8 252 RX8 yX8_shakenMany wsX8_shakenMany) := goodIn_app (goodIn_of _ (by decide +kernel)) ggX8_bestOf_X8_shakenMany
set_option maxRecDepth 20000 in
theorem ggX8_bestOf_X8_looks : GoodIn wsX8_bestOf wsX8_looks := goodIn_r _ [13, 1, 2, 8, 14, 15, 16, 6, 17, 18, 19, 20, 21, 22, 23, 24, 25, 26, 9, 27, 28, 29, 30, 31, 32, 33, 34, 35, 36, 37, 38, 39, 40, 41, 42, 43, 44, 45, 46, 47, 48, 49, 50, 51, 52, 53, 54, 55, 56, 57, 58, 59, 60, 61, 62, 63, 64, 65, 66, 67, 68, 69, 70, 71, 72, 73, 74, 75, 76, 77, 78, 79, 80, 81, 82, 83, 84, 85, 86, 87, 88, 89, 90, 91, 92, 93, 94, 95, 96, 97, 98, 99, 100, 101, 102, 103, 104, 105, 106, 107, 108, 109, 110, 111, 112, 113, 114, 115, 116, 117, 118, 119, 120, 121, 122, 123, 124, 125, 126, 127, 128, 129, 130, 131, 132, 133, 134, 135, 10, 11, 12, 136, 137, 138, 139, 140, 141, 142, 143, 144, 145, 146, 147, 148, 149, 150, 151, 152, 153, 154, 155, 156, 157, 158, 159, 160, 161, 162, 163, 164, 165, 166, 167, 168, 169, 170, 171, 172, 173, 174, 175, 176, 177, 178, 179, 180, 181, 182, 183] rfl (by decide +kernel)
set_option maxRecDepth 20000 in
theorem gX8_bestOf_X8_looks : GoodIn wsX8_bestOf (wsV RX8 303 RX8 yX8_looks wsX8_looks) := goodIn_app (goodIn_of _ (by decide +kernel)) ggX8_bestOf_X8_looks
theorem dX8_bestOf_0 : decode cX8_bestOf 0 = .ok (.aload_n 0, 1) := by decide +kernel
theorem dX8_bestOf_1 : decode cX8_bestOf 1 = .ok (.iconst (-1), 1) := by decide +kernel
theorem dX8_bestOf_2 : decode cX8_bestOf 2 = .ok (.putfield 297, 3) := by decide +kernel
theorem dX8_bestOf_5 : decode cX8_bestOf 5 = .ok (.aload_n 0, 1) := by decide +kernel
theorem dX8_bestOf_6 : decode cX8_bestOf 6 = .ok (.iconst 0, 1) := by decide +kernel
theorem dX8_bestOf_7 : decode cX8_bestOf 7 = .ok (.putfield 300, 3) := by decide +kernel
theorem dX8_bestOf_10 : decode cX8_bestOf 10 = .ok (.aload_n 0, 1) := by decide +kernel
theorem dX8_bestOf_11 : decode cX8_bestOf 11 = .ok (.iload_n 1, 1) := by decide +kernel
theorem dX8_bestOf_12 : decode cX8_bestOf 12 = .ok (.iload_n 2, 1) := by decide +kernel
theorem dX8_bestOf_13 : decode cX8_bestOf 13 = .ok (.iconst 0, 1) := by decide +kernel
theorem dX8_bestOf_14 : decode cX8_bestOf 14 = .ok (.aload_n 0, 1) := by decide +kernel
theorem dX8_bestOf_15 : decode cX8_bestOf 15 = .ok (.invokevirtual 252, 3) := by decide +kernel
theorem dX8_bestOf_18 : decode cX8_bestOf 18 = .ok (.iconst 0, 1) := by decide +kernel
theorem dX8_bestOf_19 : decode cX8_bestOf 19 = .ok (.iconst 0, 1) := by decide +kernel
theorem dX8_bestOf_20 : decode cX8_bestOf 20 = .ok (.invokevirtual 303, 3) := by decide +kernel
theorem dX8_bestOf_23 : decode cX8_bestOf 23 = .ok (.aload_n 0, 1) := by decide +kernel
theorem dX8_bestOf_24 : decode cX8_bestOf 24 = .ok (.getfield 300, 3) := by decide +kernel
theorem dX8_bestOf_27 : decode cX8_bestOf 27 = .ok (.ireturn, 1) := by decide +kernel
set_option maxRecDepth 20000 in
theorem ggX8_leaves_X8_openSet : GoodIn wsX8_leaves wsX8_openSet := goodIn_r _ [6, 1, 7, 8, 9, 5, 10, 11, 152, 153, 154, 155, 156, 157, 158, 159, 160, 161, 162, 163, 164, 165, 166, 167, 168, 169, 170, 171, 172, 173, 174, 175, 176, 177, 178, 179, 180, 181, 182, 183, 184, 185, 186, 187, 188, 189, 190, 191, 192, 193, 194, 195] rfl (by decide +kernel)
set_option maxRecDepth 20000 in
theorem gX8_leaves_X8_openSet : GoodIn wsX8_leaves (wsV RX8 307 RX8 yX8_openSet wsX8_openSet) := goodIn_app (goodIn_of _ (by decide +kernel)) ggX8_leaves_X8_openSet
set_option maxRecDepth 20000 in
theorem ggX8_leaves_X8_bestOf : GoodIn wsX8_leaves wsX8_bestOf := goodIn_r _ [15, 16, 17, 18, 19, 20, 5, 21, 1, 11, 22, 23, 24, 25, 26, 27, 28, 29, 30, 31, 32, 33, 34, 35, 36, 37, 38, 39, 40, 41, 42, 43, 44, 45, 46, 47, 48, 49, 50, 51, 52, 53, 54, 55, 56, 57, 58, 59, 60, 61, 62, 63, 64, 65, 66, 67, 68, 69, 70, 71, 72, 73, 74, 75, 76, 77, 78, 79, 80, 81, 82, 83, 84, 85, 86, 87, 88, 89, 90, 91, 92, 93, 94, 95, 96, 97, 98, 99, 100, 101, 102, 103, 104, 105, 106, 107, 108, 109, 110, 111, 112, 113, 114, 115, 116, 117, 118, 119, 120, 121, 122, 123, 124, 125, 126, 127, 128, 129, 130, 131, 132, 133, 134, 135, 136, 137, 138, 139, 140, 141, 142, 143, 144, 145, 146, 147, 148, 149, 150, 151, 152, 153, 154, 155, 156, 157, 158, 159, 160, 161, 162, 163, 164, 165, 166, 167, 168, 169, 170, 171, 172, 173, 174, 175, 176, 177, 178, 179, 180, 181, 182, 183, 184, 185, 186, 187, 188, 189, 190, 191, 192, 193, 194, 195] rfl (by decide +kernel)
set_option maxRecDepth 20000 in
theorem gX8_leaves_X8_bestOf : GoodIn wsX8_leaves (wsV RX8 310 RX8 yX8_bestOf wsX8_bestOf) := goodIn_app (goodIn_of _ (by decide +kernel)) ggX8_leaves_X8_bestOf
set_option maxRecDepth 20000 in
theorem ggX8_leaves_X8_isShaken : GoodIn wsX8_leaves wsX8_isShaken := goodIn_r _ [10, 11, 152, 153, 154, 155, 156, 157, 158, 159, 160, 161, 162, 163, 164, 165, 166, 167, 168, 169, 170, 171, 172, 173, 174, 175, 176, 177, 178, 179, 180, 181, 182, 183, 184, 185, 186, 187, 188, 189, 190, 191, 192, 193, 194, 195] rfl (by decide +kernel)
set_option maxRecDepth 20000 in
theorem gX8_leaves_X8_isShaken : GoodIn wsX8_leaves (wsV RX8 276 RX8 yX8_isShaken wsX8_isShaken) := goodIn_app (goodIn_of _ (by decide +kernel)) ggX8_leaves_X8_isShaken
theorem dX8_leaves_0 : decode cX8_leaves 0 = .ok (.aload_n 0, 1) := by decide +kernel
theorem dX8_leaves_1 : decode cX8_leaves 1 = .ok (.aload_n 0, 1) := by decide +kernel
theorem dX8_leaves_2 : decode cX8_leaves 2 = .ok (.invokevirtual 307, 3) := by decide +kernel
theorem dX8_leaves_5 : decode cX8_leaves 5 = .ok (.bipush 6, 2) := by decide +kernel
theorem dX8_leaves_7 : decode cX8_leaves 7 = .ok (.invokevirtual 310, 3) := by decide +kernel
theorem dX8_leaves_10 : decode cX8_leaves 10 = .ok (.istore_n 1, 1) := by decide +kernel
theorem dX8_leaves_11 : decode cX8_leaves 11 = .ok (.iconst 0, 1) := by decide +kernel
theorem dX8_leaves_12 : decode cX8_leaves 12 = .ok (.istore_n 2, 1) := by decide +kernel
theorem dX8_leaves_13 : decode cX8_leaves 13 = .ok (.iload_n 2, 1) := by decide +kernel
theorem dX8_leaves_14 : decode cX8_leaves 14 = .ok (.aload_n 0, 1) := by decide +kernel
theorem dX8_leaves_15 : decode cX8_leaves 15 = .ok (.getfield 64, 3) := by decide +kernel
theorem dX8_leaves_18 : decode cX8_leaves 18 = .ok (.if_icmp .ge 39, 3) := by decide +kernel
theorem dX8_leaves_21 : decode cX8_leaves 21 = .ok (.aload_n 0, 1) := by decide +kernel
theorem dX8_leaves_22 : decode cX8_leaves 22 = .ok (.iload_n 2, 1) := by decide +kernel
theorem dX8_leaves_23 : decode cX8_leaves 23 = .ok (.invokevirtual 276, 3) := by decide +kernel
theorem dX8_leaves_26 : decode cX8_leaves 26 = .ok (.ifCond .ne 25, 3) := by decide +kernel
theorem dX8_leaves_29 : decode cX8_leaves 29 = .ok (.aload_n 0, 1) := by decide +kernel
theorem dX8_leaves_30 : decode cX8_leaves 30 = .ok (.aload_n 0, 1) := by decide +kernel
theorem dX8_leaves_31 : decode cX8_leaves 31 = .ok (.invokevirtual 307, 3) := by decide +kernel
theorem dX8_leaves_34 : decode cX8_leaves 34 = .ok (.iconst 1, 1) := by decide +kernel
theorem dX8_leaves_35 : decode cX8_leaves 35 = .ok (.iload_n 2, 1) := by decide +kernel
theorem dX8_leaves_36 : decode cX8_leaves 36 = .ok (.ishl, 1) := by decide +kernel
theorem dX8_leaves_37 : decode cX8_leaves 37 = .ok (.iconst (-1), 1) := by decide +kernel
theorem dX8_leaves_38 : decode cX8_leaves 38 = .ok (.ixor, 1) := by decide +kernel
theorem dX8_leaves_39 : decode cX8_leaves 39 = .ok (.iand, 1) := by decide +kernel
theorem dX8_leaves_40 : decode cX8_leaves 40 = .ok (.bipush 6, 2) := by decide +kernel
theorem dX8_leaves_42 : decode cX8_leaves 42 = .ok (.invokevirtual 310, 3) := by decide +kernel
theorem dX8_leaves_45 : decode cX8_leaves 45 = .ok (.iload_n 1, 1) := by decide +kernel
theorem dX8_leaves_46 : decode cX8_leaves 46 = .ok (.if_icmp .lt 5, 3) := by decide +kernel
theorem dX8_leaves_49 : decode cX8_leaves 49 = .ok (.iload_n 2, 1) := by decide +kernel
theorem dX8_leaves_50 : decode cX8_leaves 50 = .ok (.ireturn, 1) := by decide +kernel
theorem dX8_leaves_51 : decode cX8_leaves 51 = .ok (.iinc 2 1, 3) := by decide +kernel
theorem dX8_leaves_54 : decode cX8_leaves 54 = .ok (.goto (-41), 3) := by decide +kernel
theorem dX8_leaves_57 : decode cX8_leaves 57 = .ok (.iconst (-1), 1) := by decide +kernel
theorem dX8_leaves_58 : decode cX8_leaves 58 = .ok (.ireturn, 1) := by decide +kernel
set_option maxRecDepth 20000 in
theorem ggX8_best_X8_in : GoodIn wsX8_best wsX8_in := goodIn_r _ [6] rfl (by decide +kernel)
set_option maxRecDepth 20000 in
theorem gX8_best_X8_in : GoodIn wsX8_best (va_wsS RX8 67 yX8_in wsX8_in) := goodIn_app (goodIn_of _ (by decide +kernel)) ggX8_best_X8_in
set_option maxRecDepth 20000 in
theorem ggX8_best_X8_leaves : GoodIn wsX8_best wsX8_leaves := goodIn_r _ [10, 11, 12, 13, 14, 5, 15, 16, 17, 18, 19, 20, 21, 22, 23, 24, 2, 25, 26, 27, 28, 29, 30, 31, 32, 33, 34, 35, 36, 37, 38, 39, 40, 41, 42, 43, 44, 45, 46, 47, 48, 49, 50, 51, 52, 53, 54, 55, 56, 57, 58, 59, 60, 61, 62, 63, 64, 65, 66, 67, 68, 69, 70, 71, 72, 73, 74, 75, 76, 77, 78, 79, 80, 81, 82, 83, 84, 85, 86, 87, 88, 89, 90, 3, 4, 6, 91, 92, 93, 94, 95, 96, 97, 98, 99, 100, 101, 102, 103, 104, 105, 106, 107, 108, 109, 110, 111, 112, 113, 114, 115, 116, 117, 118, 119, 120, 121, 122, 123, 124, 125, 126, 127, 128, 129, 130, 131, 132, 133, 134, 135, 136, 137, 138, 139, 140, 141, 142, 143, 144, 145, 146, 147, 148, 149, 150, 151, 152, 153, 154, 155, 156, 157, 158, 159, 160, 161, 162, 163, 164, 165, 166, 167, 168, 169, 170, 171, 172, 173, 174, 175, 176, 177, 178, 179, 180, 181, 182, 183, 184, 185, 186, 187, 188, 189, 190, 191, 192, 193, 194, 195, 196, 197, 198, 199, 200] rfl (by decide +kernel)
set_option maxRecDepth 20000 in
theorem gX8_best_X8_leaves : GoodIn wsX8_best (wsV RX8 313 RX8 yX8_leaves wsX8_leaves) := goodIn_app (goodIn_of _ (by decide +kernel)) ggX8_best_X8_leaves
set_option maxRecDepth 20000 in
theorem ggX8_best_X8_openSet : GoodIn wsX8_best wsX8_openSet := goodIn_r _ [15, 11, 16, 17, 18, 5, 19, 20, 157, 158, 159, 160, 161, 162, 163, 164, 165, 166, 167, 168, 169, 170, 171, 172, 173, 174, 175, 176, 177, 178, 179, 180, 181, 182, 183, 184, 185, 186, 187, 188, 189, 190, 191, 192, 193, 194, 195, 196, 197, 198, 199, 200] rfl (by decide +kernel)
set_option maxRecDepth 20000 in
theorem gX8_best_X8_openSet : GoodIn wsX8_best (wsV RX8 307 RX8 yX8_openSet wsX8_openSet) := goodIn_app (goodIn_of _ (by decide +kernel)) ggX8_best_X8_openSet
set_option maxRecDepth 20000 in
theorem ggX8_best_X8_bestOf : GoodIn wsX8_best wsX8_bestOf := goodIn_r _ [24, 2, 25, 26, 27, 28, 5, 29, 11, 20, 30, 31, 32, 33, 34, 35, 36, 37, 38, 39, 40, 41, 42, 43, 44, 45, 46, 47, 48, 49, 50, 51, 52, 53, 54, 55, 56, 57, 58, 59, 60, 61, 62, 63, 64, 65, 66, 67, 68, 69, 70, 71, 72, 73, 74, 75, 76, 77, 78, 79, 80, 81, 82, 83, 84, 85, 86, 87, 88, 89, 90, 3, 4, 6, 91, 92, 93, 94, 95, 96, 97, 98, 99, 100, 101, 102, 103, 104, 105, 106, 107, 108, 109, 110, 111, 112, 113, 114, 115, 116, 117, 118, 119, 120, 121, 122, 123, 124, 125, 126, 127, 128, 129, 130, 131, 132, 133, 134, 135, 136, 137, 138, 139, 140, 141, 142, 143, 144, 145, 146, 147, 148, 149, 150, 151, 152, 153, 154, 155, 156, 157, 158, 159, 160, 161, 162, 163, 164, 165, 166, 167, 168, 169, 170, 171, 172, 173, 174, 175, 176, 177, 178, 179, 180, 181, 182, 183, 184, 185, 186, 187, 188, 189, 190, 191, 192, 193, 194, 195, 196, 197, 198, 199, 200] rfl (by decide +kernel)
set_option maxRecDepth 20000 in
theorem gX8_best_X8_bestOf : GoodIn wsX8_best (wsV RX8 310 RX8 yX8_bestOf wsX8_bestOf) := goodIn_app (goodIn_of _ (by decide +kernel)) ggX8_best_X8_bestOf
theorem dX8_best_0 : decode cX8_best 0 = .ok (.iload_n 1, 1) := by decide +kernel
theorem dX8_best_1 : decode cX8_best 1 = .ok (.i2l, 1) := by decide +kernel
theorem dX8_best_2 : decode cX8_best 2 = .ok (.lconst 0, 1) := by decide +kernel
theorem dX8_best_3 : decode cX8_best 3 = .ok (.ldc2_w 289, 3) := by decide +kernel
theorem dX8_best_6 : decode cX8_best 6 = .ok (.invokestatic 67, 3) := by decide +kernel
theorem dX8_best_9 : decode cX8_best 9 = .ok (.ifCond .ne 6, 3) := by decide +kernel
theorem dX8_best_12 : decode cX8_best 12 = .ok (.bipush (-2), 2) := by decide +kernel
theorem dX8_best_14 : decode cX8_best 14 = .ok (.ireturn, 1) := by decide +kernel
theorem dX8_best_15 : decode cX8_best 15 = .ok (.iload_n 1, 1) := by decide +kernel
theorem dX8_best_16 : decode cX8_best 16 = .ok (.iconst 2, 1) := by decide +kernel
theorem dX8_best_17 : decode cX8_best 17 = .ok (.if_icmp .ne 8, 3) := by decide +kernel
theorem dX8_best_20 : decode cX8_best 20 = .ok (.aload_n 0, 1) := by decide +kernel
theorem dX8_best_21 : decode cX8_best 21 = .ok (.invokevirtual 313, 3) := by decide +kernel
theorem dX8_best_24 : decode cX8_best 24 = .ok (.ireturn, 1) := by decide +kernel
theorem dX8_best_25 : decode cX8_best 25 = .ok (.aload_n 0, 1) := by decide +kernel
theorem dX8_best_26 : decode cX8_best 26 = .ok (.aload_n 0, 1) := by decide +kernel
theorem dX8_best_27 : decode cX8_best 27 = .ok (.invokevirtual 307, 3) := by decide +kernel
theorem dX8_best_30 : decode cX8_best 30 = .ok (.bipush 6, 2) := by decide +kernel
theorem dX8_best_32 : decode cX8_best 32 = .ok (.invokevirtual 310, 3) := by decide +kernel
theorem dX8_best_35 : decode cX8_best 35 = .ok (.istore_n 2, 1) := by decide +kernel
theorem dX8_best_36 : decode cX8_best 36 = .ok (.iload_n 1, 1) := by decide +kernel
theorem dX8_best_37 : decode cX8_best 37 = .ok (.ifCond .ne 10, 3) := by decide +kernel
theorem dX8_best_40 : decode cX8_best 40 = .ok (.aload_n 0, 1) := by decide +kernel
theorem dX8_best_41 : decode cX8_best 41 = .ok (.getfield 297, 3) := by decide +kernel
theorem dX8_best_44 : decode cX8_best 44 = .ok (.goto 4, 3) := by decide +kernel
theorem dX8_best_47 : decode cX8_best 47 = .ok (.iload_n 2, 1) := by decide +kernel
theorem dX8_best_48 : decode cX8_best 48 = .ok (.ireturn, 1) := by decide +kernel
set_option maxRecDepth 20000 in
theorem ggX8_few_X8_in : GoodIn wsX8_few wsX8_in := goodIn_r _ [5] rfl (by decide +kernel)
set_option maxRecDepth 20000 in
theorem gX8_few_X8_in : GoodIn wsX8_few (va_wsS RX8 67 yX8_in wsX8_in) := goodIn_app (goodIn_of _ (by decide +kernel)) ggX8_few_X8_in
set_option maxRecDepth 20000 in
theorem ggX8_few_X8_openSet : GoodIn wsX8_few wsX8_openSet := goodIn_r _ [9, 10, 11, 12, 13, 4, 14, 15, 153, 154, 155, 156, 157, 158, 159, 160, 161, 162, 163, 164, 165, 166, 167, 168, 169, 170, 171, 172, 173, 174, 175, 176, 177, 178, 179, 180, 181, 182, 183, 184, 185, 186, 187, 188, 189, 190, 191, 192, 193, 194, 195, 196] rfl (by decide +kernel)
set_option maxRecDepth 20000 in
theorem gX8_few_X8_openSet : GoodIn wsX8_few (wsV RX8 307 RX8 yX8_openSet wsX8_openSet) := goodIn_app (goodIn_of _ (by decide +kernel)) ggX8_few_X8_openSet
set_option maxRecDepth 20000 in
theorem ggX8_few_X8_bestOf : GoodIn wsX8_few wsX8_bestOf := goodIn_r _ [19, 20, 21, 22, 23, 24, 4, 25, 10, 15, 26, 27, 28, 29, 30, 31, 32, 33, 34, 35, 36, 37, 38, 39, 40, 41, 42, 43, 44, 45, 46, 47, 48, 49, 50, 51, 52, 53, 54, 55, 56, 57, 58, 59, 60, 61, 62, 63, 64, 65, 66, 67, 68, 69, 70, 71, 72, 73, 74, 75, 76, 77, 78, 79, 80, 81, 82, 83, 84, 85, 86, 2, 3, 5, 87, 88, 89, 90, 91, 92, 93, 94, 95, 96, 97, 98, 99, 100, 101, 102, 103, 104, 105, 106, 107, 108, 109, 110, 111, 112, 113, 114, 115, 116, 117, 118, 119, 120, 121, 122, 123, 124, 125, 126, 127, 128, 129, 130, 131, 132, 133, 134, 135, 136, 137, 138, 139, 140, 141, 142, 143, 144, 145, 146, 147, 148, 149, 150, 151, 152, 153, 154, 155, 156, 157, 158, 159, 160, 161, 162, 163, 164, 165, 166, 167, 168, 169, 170, 171, 172, 173, 174, 175, 176, 177, 178, 179, 180, 181, 182, 183, 184, 185, 186, 187, 188, 189, 190, 191, 192, 193, 194, 195, 196] rfl (by decide +kernel)
set_option maxRecDepth 20000 in
theorem gX8_few_X8_bestOf : GoodIn wsX8_few (wsV RX8 310 RX8 yX8_bestOf wsX8_bestOf) := goodIn_app (goodIn_of _ (by decide +kernel)) ggX8_few_X8_bestOf
theorem dX8_few_0 : decode cX8_few 0 = .ok (.iload_n 1, 1) := by decide +kernel
theorem dX8_few_1 : decode cX8_few 1 = .ok (.i2l, 1) := by decide +kernel
theorem dX8_few_2 : decode cX8_few 2 = .ok (.lconst 0, 1) := by decide +kernel
theorem dX8_few_3 : decode cX8_few 3 = .ok (.ldc2_w 316, 3) := by decide +kernel
theorem dX8_few_6 : decode cX8_few 6 = .ok (.invokestatic 67, 3) := by decide +kernel
theorem dX8_few_9 : decode cX8_few 9 = .ok (.ifCond .eq 15, 3) := by decide +kernel
theorem dX8_few_12 : decode cX8_few 12 = .ok (.aload_n 0, 1) := by decide +kernel
theorem dX8_few_13 : decode cX8_few 13 = .ok (.aload_n 0, 1) := by decide +kernel
theorem dX8_few_14 : decode cX8_few 14 = .ok (.invokevirtual 307, 3) := by decide +kernel
theorem dX8_few_17 : decode cX8_few 17 = .ok (.iload_n 1, 1) := by decide +kernel
theorem dX8_few_18 : decode cX8_few 18 = .ok (.invokevirtual 310, 3) := by decide +kernel
theorem dX8_few_21 : decode cX8_few 21 = .ok (.goto 5, 3) := by decide +kernel
theorem dX8_few_24 : decode cX8_few 24 = .ok (.bipush (-2), 2) := by decide +kernel
theorem dX8_few_26 : decode cX8_few 26 = .ok (.ireturn, 1) := by decide +kernel
set_option maxRecDepth 20000 in
theorem ggX8_water_X8_in : GoodIn wsX8_water wsX8_in := goodIn_r _ [6] rfl (by decide +kernel)
set_option maxRecDepth 20000 in
theorem gX8_water_X8_in : GoodIn wsX8_water (va_wsS RX8 67 yX8_in wsX8_in) := goodIn_app (goodIn_of _ (by decide +kernel)) ggX8_water_X8_in
set_option maxRecDepth 20000 in
theorem ggX8_water_X8_shakenMany : GoodIn wsX8_water wsX8_shakenMany := goodIn_r _ [10, 1, 11, 152, 153, 154, 155, 156, 157, 158, 159, 160, 161, 162, 163, 164, 165, 166, 167, 168, 169, 170, 171, 172, 173, 174, 175, 176, 177, 178, 179, 180, 181, 182, 183, 184, 185, 186, 187, 188, 189, 190, 191, 192, 193, 194, 195] rfl (by decide +kernel)
set_option maxRecDepth 20000 in
theorem gX8_water_X8_shakenMany : GoodIn wsX8_water (wsV RX8 252 RX8 yX8_shakenMany wsX8_shakenMany) := goodIn_app (goodIn_of _ (by decide +kernel)) ggX8_water_X8_shakenMany
set_option maxRecDepth 20000 in
theorem ggX8_water_X8_openSet : GoodIn wsX8_water wsX8_openSet := goodIn_r _ [15, 1, 16, 17, 18, 5, 19, 11, 152, 153, 154, 155, 156, 157, 158, 159, 160, 161, 162, 163, 164, 165, 166, 167, 168, 169, 170, 171, 172, 173, 174, 175, 176, 177, 178, 179, 180, 181, 182, 183, 184, 185, 186, 187, 188, 189, 190, 191, 192, 193, 194, 195] rfl (by decide +kernel)
set_option maxRecDepth 20000 in
theorem gX8_water_X8_openSet : GoodIn wsX8_water (wsV RX8 307 RX8 yX8_openSet wsX8_openSet) := goodIn_app (goodIn_of _ (by decide +kernel)) ggX8_water_X8_openSet
set_option maxRecDepth 20000 in
theorem ggX8_water_X8_bestOf : GoodIn wsX8_water wsX8_bestOf := goodIn_r _ [23, 24, 25, 7, 8, 9, 5, 10, 1, 11, 26, 27, 28, 29, 30, 31, 32, 33, 34, 35, 36, 37, 38, 39, 40, 41, 42, 43, 44, 45, 46, 47, 48, 49, 50, 51, 52, 53, 54, 55, 56, 57, 58, 2, 59, 60, 61, 62, 63, 64, 65, 66, 67, 68, 69, 70, 71, 72, 73, 74, 75, 76, 77, 78, 79, 80, 81, 82, 83, 84, 85, 3, 4, 6, 86, 87, 88, 89, 90, 91, 92, 93, 94, 95, 96, 97, 98, 99, 100, 101, 102, 103, 104, 105, 106, 107, 108, 109, 110, 111, 112, 113, 114, 115, 116, 117, 118, 119, 120, 121, 122, 123, 124, 125, 126, 127, 128, 129, 130, 131, 132, 133, 134, 135, 136, 137, 138, 139, 140, 141, 142, 143, 144, 145, 146, 147, 148, 149, 150, 151, 152, 153, 154, 155, 156, 157, 158, 159, 160, 161, 162, 163, 164, 165, 166, 167, 168, 169, 170, 171, 172, 173, 174, 175, 176, 177, 178, 179, 180, 181, 182, 183, 184, 185, 186, 187, 188, 189, 190, 191, 192, 193, 194, 195] rfl (by decide +kernel)
set_option maxRecDepth 20000 in
theorem gX8_water_X8_bestOf : GoodIn wsX8_water (wsV RX8 310 RX8 yX8_bestOf wsX8_bestOf) := goodIn_app (goodIn_of _ (by decide +kernel)) ggX8_water_X8_bestOf
theorem dX8_water_0 : decode cX8_water 0 = .ok (.iload_n 1, 1) := by decide +kernel
theorem dX8_water_1 : decode cX8_water 1 = .ok (.i2l, 1) := by decide +kernel
theorem dX8_water_2 : decode cX8_water 2 = .ok (.lconst 0, 1) := by decide +kernel
theorem dX8_water_3 : decode cX8_water 3 = .ok (.lconst 1, 1) := by decide +kernel
theorem dX8_water_4 : decode cX8_water 4 = .ok (.invokestatic 67, 3) := by decide +kernel
theorem dX8_water_7 : decode cX8_water 7 = .ok (.ifCond .ne 6, 3) := by decide +kernel
theorem dX8_water_10 : decode cX8_water 10 = .ok (.bipush (-2), 2) := by decide +kernel
theorem dX8_water_12 : decode cX8_water 12 = .ok (.ireturn, 1) := by decide +kernel
theorem dX8_water_13 : decode cX8_water 13 = .ok (.aload_n 0, 1) := by decide +kernel
theorem dX8_water_14 : decode cX8_water 14 = .ok (.getfield 64, 3) := by decide +kernel
theorem dX8_water_17 : decode cX8_water 17 = .ok (.aload_n 0, 1) := by decide +kernel
theorem dX8_water_18 : decode cX8_water 18 = .ok (.invokevirtual 252, 3) := by decide +kernel
theorem dX8_water_21 : decode cX8_water 21 = .ok (.isub, 1) := by decide +kernel
theorem dX8_water_22 : decode cX8_water 22 = .ok (.iconst 4, 1) := by decide +kernel
theorem dX8_water_23 : decode cX8_water 23 = .ok (.if_icmp .le 6, 3) := by decide +kernel
theorem dX8_water_26 : decode cX8_water 26 = .ok (.bipush (-3), 2) := by decide +kernel
theorem dX8_water_28 : decode cX8_water 28 = .ok (.ireturn, 1) := by decide +kernel
theorem dX8_water_29 : decode cX8_water 29 = .ok (.iconst (-1), 1) := by decide +kernel
theorem dX8_water_30 : decode cX8_water 30 = .ok (.istore_n 2, 1) := by decide +kernel
theorem dX8_water_31 : decode cX8_water 31 = .ok (.aload_n 0, 1) := by decide +kernel
theorem dX8_water_32 : decode cX8_water 32 = .ok (.aload_n 0, 1) := by decide +kernel
theorem dX8_water_33 : decode cX8_water 33 = .ok (.invokevirtual 307, 3) := by decide +kernel
theorem dX8_water_36 : decode cX8_water 36 = .ok (.bipush 6, 2) := by decide +kernel
theorem dX8_water_38 : decode cX8_water 38 = .ok (.invokevirtual 310, 3) := by decide +kernel
theorem dX8_water_41 : decode cX8_water 41 = .ok (.istore_n 3, 1) := by decide +kernel
theorem dX8_water_42 : decode cX8_water 42 = .ok (.iconst 0, 1) := by decide +kernel
theorem dX8_water_43 : decode cX8_water 43 = .ok (.istore 4, 2) := by decide +kernel
theorem dX8_water_45 : decode cX8_water 45 = .ok (.iload 4, 2) := by decide +kernel
theorem dX8_water_47 : decode cX8_water 47 = .ok (.bipush 48, 2) := by decide +kernel
theorem dX8_water_49 : decode cX8_water 49 = .ok (.if_icmp .ge 72, 3) := by decide +kernel
theorem dX8_water_52 : decode cX8_water 52 = .ok (.aload_n 0, 1) := by decide +kernel
theorem dX8_water_53 : decode cX8_water 53 = .ok (.getfield 23, 3) := by decide +kernel
theorem dX8_water_56 : decode cX8_water 56 = .ok (.iload 4, 2) := by decide +kernel
theorem dX8_water_58 : decode cX8_water 58 = .ok (.iaload, 1) := by decide +kernel
theorem dX8_water_59 : decode cX8_water 59 = .ok (.istore 5, 2) := by decide +kernel
theorem dX8_water_61 : decode cX8_water 61 = .ok (.aload_n 0, 1) := by decide +kernel
theorem dX8_water_62 : decode cX8_water 62 = .ok (.getfield 23, 3) := by decide +kernel
theorem dX8_water_65 : decode cX8_water 65 = .ok (.iload 4, 2) := by decide +kernel
theorem dX8_water_67 : decode cX8_water 67 = .ok (.bipush 9, 2) := by decide +kernel
theorem dX8_water_69 : decode cX8_water 69 = .ok (.iastore, 1) := by decide +kernel
theorem dX8_water_70 : decode cX8_water 70 = .ok (.aload_n 0, 1) := by decide +kernel
theorem dX8_water_71 : decode cX8_water 71 = .ok (.aload_n 0, 1) := by decide +kernel
theorem dX8_water_72 : decode cX8_water 72 = .ok (.invokevirtual 307, 3) := by decide +kernel
theorem dX8_water_75 : decode cX8_water 75 = .ok (.bipush 6, 2) := by decide +kernel
theorem dX8_water_77 : decode cX8_water 77 = .ok (.invokevirtual 310, 3) := by decide +kernel
theorem dX8_water_80 : decode cX8_water 80 = .ok (.istore 6, 2) := by decide +kernel
theorem dX8_water_82 : decode cX8_water 82 = .ok (.aload_n 0, 1) := by decide +kernel
theorem dX8_water_83 : decode cX8_water 83 = .ok (.getfield 23, 3) := by decide +kernel
theorem dX8_water_86 : decode cX8_water 86 = .ok (.iload 4, 2) := by decide +kernel
theorem dX8_water_88 : decode cX8_water 88 = .ok (.iload 5, 2) := by decide +kernel
theorem dX8_water_90 : decode cX8_water 90 = .ok (.iastore, 1) := by decide +kernel
theorem dX8_water_91 : decode cX8_water 91 = .ok (.iload 6, 2) := by decide +kernel
theorem dX8_water_93 : decode cX8_water 93 = .ok (.iload_n 3, 1) := by decide +kernel
theorem dX8_water_94 : decode cX8_water 94 = .ok (.if_icmp .le 21, 3) := by decide +kernel
theorem dX8_water_97 : decode cX8_water 97 = .ok (.bipush 100, 2) := by decide +kernel
theorem dX8_water_99 : decode cX8_water 99 = .ok (.iload 4, 2) := by decide +kernel
theorem dX8_water_101 : decode cX8_water 101 = .ok (.bipush 24, 2) := by decide +kernel
theorem dX8_water_103 : decode cX8_water 103 = .ok (.idiv, 1) := by decide +kernel
theorem dX8_water_104 : decode cX8_water 104 = .ok (.imul, 1) := by decide +kernel
theorem dX8_water_105 : decode cX8_water 105 = .ok (.iload 4, 2) := by decide +kernel
theorem dX8_water_107 : decode cX8_water 107 = .ok (.bipush 24, 2) := by decide +kernel
theorem dX8_water_109 : decode cX8_water 109 = .ok (.irem, 1) := by decide +kernel
theorem dX8_water_110 : decode cX8_water 110 = .ok (.iadd, 1) := by decide +kernel
theorem dX8_water_111 : decode cX8_water 111 = .ok (.istore_n 2, 1) := by decide +kernel
theorem dX8_water_112 : decode cX8_water 112 = .ok (.iload 6, 2) := by decide +kernel
theorem dX8_water_114 : decode cX8_water 114 = .ok (.istore_n 3, 1) := by decide +kernel
theorem dX8_water_115 : decode cX8_water 115 = .ok (.iinc 4 1, 3) := by decide +kernel
theorem dX8_water_118 : decode cX8_water 118 = .ok (.goto (-73), 3) := by decide +kernel
theorem dX8_water_121 : decode cX8_water 121 = .ok (.iload_n 1, 1) := by decide +kernel
theorem dX8_water_122 : decode cX8_water 122 = .ok (.ifCond .ne 7, 3) := by decide +kernel
theorem dX8_water_125 : decode cX8_water 125 = .ok (.iload_n 2, 1) := by decide +kernel
theorem dX8_water_126 : decode cX8_water 126 = .ok (.goto 4, 3) := by decide +kernel
theorem dX8_water_129 : decode cX8_water 129 = .ok (.iload_n 3, 1) := by decide +kernel
theorem dX8_water_130 : decode cX8_water 130 = .ok (.ireturn, 1) := by decide +kernel
theorem dX8_wetMany_0 : decode cX8_wetMany 0 = .ok (.iconst 0, 1) := by decide +kernel
theorem dX8_wetMany_1 : decode cX8_wetMany 1 = .ok (.istore_n 2, 1) := by decide +kernel
theorem dX8_wetMany_2 : decode cX8_wetMany 2 = .ok (.iconst 0, 1) := by decide +kernel
theorem dX8_wetMany_3 : decode cX8_wetMany 3 = .ok (.istore_n 3, 1) := by decide +kernel
theorem dX8_wetMany_4 : decode cX8_wetMany 4 = .ok (.iload_n 3, 1) := by decide +kernel
theorem dX8_wetMany_5 : decode cX8_wetMany 5 = .ok (.bipush 24, 2) := by decide +kernel
theorem dX8_wetMany_7 : decode cX8_wetMany 7 = .ok (.if_icmp .ge 31, 3) := by decide +kernel
theorem dX8_wetMany_10 : decode cX8_wetMany 10 = .ok (.iload_n 2, 1) := by decide +kernel
theorem dX8_wetMany_11 : decode cX8_wetMany 11 = .ok (.aload_n 0, 1) := by decide +kernel
theorem dX8_wetMany_12 : decode cX8_wetMany 12 = .ok (.getfield 23, 3) := by decide +kernel
theorem dX8_wetMany_15 : decode cX8_wetMany 15 = .ok (.bipush 24, 2) := by decide +kernel
theorem dX8_wetMany_17 : decode cX8_wetMany 17 = .ok (.iload_n 1, 1) := by decide +kernel
theorem dX8_wetMany_18 : decode cX8_wetMany 18 = .ok (.imul, 1) := by decide +kernel
theorem dX8_wetMany_19 : decode cX8_wetMany 19 = .ok (.iload_n 3, 1) := by decide +kernel
theorem dX8_wetMany_20 : decode cX8_wetMany 20 = .ok (.iadd, 1) := by decide +kernel
theorem dX8_wetMany_21 : decode cX8_wetMany 21 = .ok (.iaload, 1) := by decide +kernel
theorem dX8_wetMany_22 : decode cX8_wetMany 22 = .ok (.ifCond .le 7, 3) := by decide +kernel
theorem dX8_wetMany_25 : decode cX8_wetMany 25 = .ok (.iconst 1, 1) := by decide +kernel
theorem dX8_wetMany_26 : decode cX8_wetMany 26 = .ok (.goto 4, 3) := by decide +kernel
theorem dX8_wetMany_29 : decode cX8_wetMany 29 = .ok (.iconst 0, 1) := by decide +kernel
theorem dX8_wetMany_30 : decode cX8_wetMany 30 = .ok (.iadd, 1) := by decide +kernel
theorem dX8_wetMany_31 : decode cX8_wetMany 31 = .ok (.istore_n 2, 1) := by decide +kernel
theorem dX8_wetMany_32 : decode cX8_wetMany 32 = .ok (.iinc 3 1, 3) := by decide +kernel
theorem dX8_wetMany_35 : decode cX8_wetMany 35 = .ok (.goto (-31), 3) := by decide +kernel
theorem dX8_wetMany_38 : decode cX8_wetMany 38 = .ok (.iload_n 2, 1) := by decide +kernel
theorem dX8_wetMany_39 : decode cX8_wetMany 39 = .ok (.ireturn, 1) := by decide +kernel
set_option maxRecDepth 20000 in
theorem ggX8_sky_X8_in : GoodIn wsX8_sky wsX8_in := goodIn_r _ [6] rfl (by decide +kernel)
set_option maxRecDepth 20000 in
theorem gX8_sky_X8_in : GoodIn wsX8_sky (va_wsS RX8 67 yX8_in wsX8_in) := goodIn_app (goodIn_of _ (by decide +kernel)) ggX8_sky_X8_in
set_option maxRecDepth 20000 in
theorem ggX8_sky_X8_wetMany : GoodIn wsX8_sky wsX8_wetMany := goodIn_r _ [10, 2, 11, 12, 13, 14, 15, 16, 17, 18, 19, 20, 21, 22, 23, 24, 25, 26, 27, 28, 29, 30, 31, 32, 33, 34, 35, 36, 37, 38, 39, 40, 41, 42, 43, 44, 45, 46, 47, 48, 49, 50, 51, 52, 53, 54] rfl (by decide +kernel)
set_option maxRecDepth 20000 in
theorem gX8_sky_X8_wetMany : GoodIn wsX8_sky (wsV RX8 318 RX8 yX8_wetMany wsX8_wetMany) := goodIn_app (goodIn_of _ (by decide +kernel)) ggX8_sky_X8_wetMany
theorem dX8_sky_0 : decode cX8_sky 0 = .ok (.iload_n 1, 1) := by decide +kernel
theorem dX8_sky_1 : decode cX8_sky 1 = .ok (.i2l, 1) := by decide +kernel
theorem dX8_sky_2 : decode cX8_sky 2 = .ok (.lconst 0, 1) := by decide +kernel
theorem dX8_sky_3 : decode cX8_sky 3 = .ok (.lconst 1, 1) := by decide +kernel
theorem dX8_sky_4 : decode cX8_sky 4 = .ok (.invokestatic 67, 3) := by decide +kernel
theorem dX8_sky_7 : decode cX8_sky 7 = .ok (.ifCond .eq 15, 3) := by decide +kernel
theorem dX8_sky_10 : decode cX8_sky 10 = .ok (.iload_n 2, 1) := by decide +kernel
theorem dX8_sky_11 : decode cX8_sky 11 = .ok (.i2l, 1) := by decide +kernel
theorem dX8_sky_12 : decode cX8_sky 12 = .ok (.lconst 0, 1) := by decide +kernel
theorem dX8_sky_13 : decode cX8_sky 13 = .ok (.ldc2_w 79, 3) := by decide +kernel
theorem dX8_sky_16 : decode cX8_sky 16 = .ok (.invokestatic 67, 3) := by decide +kernel
theorem dX8_sky_19 : decode cX8_sky 19 = .ok (.ifCond .ne 6, 3) := by decide +kernel
theorem dX8_sky_22 : decode cX8_sky 22 = .ok (.bipush (-2), 2) := by decide +kernel
theorem dX8_sky_24 : decode cX8_sky 24 = .ok (.ireturn, 1) := by decide +kernel
theorem dX8_sky_25 : decode cX8_sky 25 = .ok (.iconst 0, 1) := by decide +kernel
theorem dX8_sky_26 : decode cX8_sky 26 = .ok (.istore_n 3, 1) := by decide +kernel
theorem dX8_sky_27 : decode cX8_sky 27 = .ok (.iconst 0, 1) := by decide +kernel
theorem dX8_sky_28 : decode cX8_sky 28 = .ok (.istore 4, 2) := by decide +kernel
theorem dX8_sky_30 : decode cX8_sky 30 = .ok (.iconst 0, 1) := by decide +kernel
theorem dX8_sky_31 : decode cX8_sky 31 = .ok (.istore 5, 2) := by decide +kernel
theorem dX8_sky_33 : decode cX8_sky 33 = .ok (.iconst 0, 1) := by decide +kernel
theorem dX8_sky_34 : decode cX8_sky 34 = .ok (.istore 6, 2) := by decide +kernel
theorem dX8_sky_36 : decode cX8_sky 36 = .ok (.iconst (-1), 1) := by decide +kernel
theorem dX8_sky_37 : decode cX8_sky 37 = .ok (.istore 7, 2) := by decide +kernel
theorem dX8_sky_39 : decode cX8_sky 39 = .ok (.iconst 0, 1) := by decide +kernel
theorem dX8_sky_40 : decode cX8_sky 40 = .ok (.istore 8, 2) := by decide +kernel
theorem dX8_sky_42 : decode cX8_sky 42 = .ok (.iload 8, 2) := by decide +kernel
theorem dX8_sky_44 : decode cX8_sky 44 = .ok (.bipush 24, 2) := by decide +kernel
theorem dX8_sky_46 : decode cX8_sky 46 = .ok (.if_icmp .ge 103, 3) := by decide +kernel
theorem dX8_sky_49 : decode cX8_sky 49 = .ok (.iload_n 3, 1) := by decide +kernel
theorem dX8_sky_50 : decode cX8_sky 50 = .ok (.aload_n 0, 1) := by decide +kernel
theorem dX8_sky_51 : decode cX8_sky 51 = .ok (.getfield 23, 3) := by decide +kernel
theorem dX8_sky_54 : decode cX8_sky 54 = .ok (.bipush 24, 2) := by decide +kernel
theorem dX8_sky_56 : decode cX8_sky 56 = .ok (.iload_n 1, 1) := by decide +kernel
theorem dX8_sky_57 : decode cX8_sky 57 = .ok (.imul, 1) := by decide +kernel
theorem dX8_sky_58 : decode cX8_sky 58 = .ok (.iload 8, 2) := by decide +kernel
theorem dX8_sky_60 : decode cX8_sky 60 = .ok (.iadd, 1) := by decide +kernel
theorem dX8_sky_61 : decode cX8_sky 61 = .ok (.iaload, 1) := by decide +kernel
theorem dX8_sky_62 : decode cX8_sky 62 = .ok (.iadd, 1) := by decide +kernel
theorem dX8_sky_63 : decode cX8_sky 63 = .ok (.istore_n 3, 1) := by decide +kernel
theorem dX8_sky_64 : decode cX8_sky 64 = .ok (.iload 4, 2) := by decide +kernel
theorem dX8_sky_66 : decode cX8_sky 66 = .ok (.aload_n 0, 1) := by decide +kernel
theorem dX8_sky_67 : decode cX8_sky 67 = .ok (.getfield 23, 3) := by decide +kernel
theorem dX8_sky_70 : decode cX8_sky 70 = .ok (.iload 8, 2) := by decide +kernel
theorem dX8_sky_72 : decode cX8_sky 72 = .ok (.iaload, 1) := by decide +kernel
theorem dX8_sky_73 : decode cX8_sky 73 = .ok (.aload_n 0, 1) := by decide +kernel
theorem dX8_sky_74 : decode cX8_sky 74 = .ok (.getfield 23, 3) := by decide +kernel
theorem dX8_sky_77 : decode cX8_sky 77 = .ok (.bipush 24, 2) := by decide +kernel
theorem dX8_sky_79 : decode cX8_sky 79 = .ok (.iload 8, 2) := by decide +kernel
theorem dX8_sky_81 : decode cX8_sky 81 = .ok (.iadd, 1) := by decide +kernel
theorem dX8_sky_82 : decode cX8_sky 82 = .ok (.iaload, 1) := by decide +kernel
theorem dX8_sky_83 : decode cX8_sky 83 = .ok (.iadd, 1) := by decide +kernel
theorem dX8_sky_84 : decode cX8_sky 84 = .ok (.ifCond .ne 7, 3) := by decide +kernel
theorem dX8_sky_87 : decode cX8_sky 87 = .ok (.iconst 1, 1) := by decide +kernel
theorem dX8_sky_88 : decode cX8_sky 88 = .ok (.goto 4, 3) := by decide +kernel
theorem dX8_sky_91 : decode cX8_sky 91 = .ok (.iconst 0, 1) := by decide +kernel
theorem dX8_sky_92 : decode cX8_sky 92 = .ok (.iload 8, 2) := by decide +kernel
theorem dX8_sky_94 : decode cX8_sky 94 = .ok (.ishl, 1) := by decide +kernel
theorem dX8_sky_95 : decode cX8_sky 95 = .ok (.ior, 1) := by decide +kernel
theorem dX8_sky_96 : decode cX8_sky 96 = .ok (.istore 4, 2) := by decide +kernel
theorem dX8_sky_98 : decode cX8_sky 98 = .ok (.aload_n 0, 1) := by decide +kernel
theorem dX8_sky_99 : decode cX8_sky 99 = .ok (.getfield 23, 3) := by decide +kernel
theorem dX8_sky_102 : decode cX8_sky 102 = .ok (.bipush 24, 2) := by decide +kernel
theorem dX8_sky_104 : decode cX8_sky 104 = .ok (.iload_n 1, 1) := by decide +kernel
theorem dX8_sky_105 : decode cX8_sky 105 = .ok (.imul, 1) := by decide +kernel
theorem dX8_sky_106 : decode cX8_sky 106 = .ok (.iload 8, 2) := by decide +kernel
theorem dX8_sky_108 : decode cX8_sky 108 = .ok (.iadd, 1) := by decide +kernel
theorem dX8_sky_109 : decode cX8_sky 109 = .ok (.iaload, 1) := by decide +kernel
theorem dX8_sky_110 : decode cX8_sky 110 = .ok (.ifCond .le 10, 3) := by decide +kernel
theorem dX8_sky_113 : decode cX8_sky 113 = .ok (.iload 5, 2) := by decide +kernel
theorem dX8_sky_115 : decode cX8_sky 115 = .ok (.iconst 1, 1) := by decide +kernel
theorem dX8_sky_116 : decode cX8_sky 116 = .ok (.iadd, 1) := by decide +kernel
theorem dX8_sky_117 : decode cX8_sky 117 = .ok (.goto 4, 3) := by decide +kernel
theorem dX8_sky_120 : decode cX8_sky 120 = .ok (.iconst 0, 1) := by decide +kernel
theorem dX8_sky_121 : decode cX8_sky 121 = .ok (.istore 5, 2) := by decide +kernel
theorem dX8_sky_123 : decode cX8_sky 123 = .ok (.iload 5, 2) := by decide +kernel
theorem dX8_sky_125 : decode cX8_sky 125 = .ok (.iload 6, 2) := by decide +kernel
theorem dX8_sky_127 : decode cX8_sky 127 = .ok (.if_icmp .le 16, 3) := by decide +kernel
theorem dX8_sky_130 : decode cX8_sky 130 = .ok (.iload 5, 2) := by decide +kernel
theorem dX8_sky_132 : decode cX8_sky 132 = .ok (.istore 6, 2) := by decide +kernel
theorem dX8_sky_134 : decode cX8_sky 134 = .ok (.iload 8, 2) := by decide +kernel
theorem dX8_sky_136 : decode cX8_sky 136 = .ok (.iload 5, 2) := by decide +kernel
theorem dX8_sky_138 : decode cX8_sky 138 = .ok (.isub, 1) := by decide +kernel
theorem dX8_sky_139 : decode cX8_sky 139 = .ok (.iconst 1, 1) := by decide +kernel
theorem dX8_sky_140 : decode cX8_sky 140 = .ok (.iadd, 1) := by decide +kernel
theorem dX8_sky_141 : decode cX8_sky 141 = .ok (.istore 7, 2) := by decide +kernel
theorem dX8_sky_143 : decode cX8_sky 143 = .ok (.iinc 8 1, 3) := by decide +kernel
theorem dX8_sky_146 : decode cX8_sky 146 = .ok (.goto (-104), 3) := by decide +kernel
theorem dX8_sky_149 : decode cX8_sky 149 = .ok (.iload_n 2, 1) := by decide +kernel
theorem dX8_sky_150 : decode cX8_sky 150 = .ok (.ifCond .ne 8, 3) := by decide +kernel
theorem dX8_sky_153 : decode cX8_sky 153 = .ok (.iload 6, 2) := by decide +kernel
theorem dX8_sky_155 : decode cX8_sky 155 = .ok (.goto 37, 3) := by decide +kernel
theorem dX8_sky_158 : decode cX8_sky 158 = .ok (.iload_n 2, 1) := by decide +kernel
theorem dX8_sky_159 : decode cX8_sky 159 = .ok (.iconst 1, 1) := by decide +kernel
theorem dX8_sky_160 : decode cX8_sky 160 = .ok (.if_icmp .ne 8, 3) := by decide +kernel
theorem dX8_sky_163 : decode cX8_sky 163 = .ok (.iload 7, 2) := by decide +kernel
theorem dX8_sky_165 : decode cX8_sky 165 = .ok (.goto 27, 3) := by decide +kernel
theorem dX8_sky_168 : decode cX8_sky 168 = .ok (.iload_n 2, 1) := by decide +kernel
theorem dX8_sky_169 : decode cX8_sky 169 = .ok (.iconst 2, 1) := by decide +kernel
theorem dX8_sky_170 : decode cX8_sky 170 = .ok (.if_icmp .ne 11, 3) := by decide +kernel
theorem dX8_sky_173 : decode cX8_sky 173 = .ok (.aload_n 0, 1) := by decide +kernel
theorem dX8_sky_174 : decode cX8_sky 174 = .ok (.iload_n 1, 1) := by decide +kernel
theorem dX8_sky_175 : decode cX8_sky 175 = .ok (.invokevirtual 318, 3) := by decide +kernel
theorem dX8_sky_178 : decode cX8_sky 178 = .ok (.goto 14, 3) := by decide +kernel
theorem dX8_sky_181 : decode cX8_sky 181 = .ok (.iload_n 2, 1) := by decide +kernel
theorem dX8_sky_182 : decode cX8_sky 182 = .ok (.iconst 3, 1) := by decide +kernel
theorem dX8_sky_183 : decode cX8_sky 183 = .ok (.if_icmp .ne 7, 3) := by decide +kernel
theorem dX8_sky_186 : decode cX8_sky 186 = .ok (.iload_n 3, 1) := by decide +kernel
theorem dX8_sky_187 : decode cX8_sky 187 = .ok (.goto 5, 3) := by decide +kernel
theorem dX8_sky_190 : decode cX8_sky 190 = .ok (.iload 4, 2) := by decide +kernel
theorem dX8_sky_192 : decode cX8_sky 192 = .ok (.ireturn, 1) := by decide +kernel
set_option maxRecDepth 20000 in
theorem ggX8_firstOther_X8_worthOf : GoodIn wsX8_firstOther wsX8_worthOf := goodIn_r _ [7, 8, 9, 10, 11, 12, 6, 13, 14, 15, 16, 17, 18, 19, 20, 21, 22, 23, 24, 25, 26, 27, 28, 29, 30, 31, 32, 33, 34, 35, 36, 37, 38, 39, 40, 41, 42, 43, 44, 45, 46, 47, 48, 49, 50, 51, 52, 53, 54, 55, 56, 57, 58, 59, 60, 61, 62, 63, 64, 65, 66, 67, 68, 69, 70, 71, 72, 73, 74, 75, 76, 77, 78, 79, 80, 81, 82, 83, 84, 85, 86, 87, 88, 89, 90, 91, 92, 93, 94, 95, 96, 97, 98, 99, 100, 101, 102, 103, 104, 105, 106, 107, 108, 109, 110, 111, 112, 113, 114, 115, 116, 117, 118, 119, 120, 121, 122, 123, 124, 125, 126, 127, 128, 129, 130, 131, 132, 133, 134, 135, 136, 137, 138, 139, 140, 141, 142, 143, 144, 145, 146, 147, 148, 149, 150, 151, 152, 153, 154, 155, 156, 157, 158] rfl (by decide +kernel)
set_option maxRecDepth 20000 in
theorem gX8_firstOther_X8_worthOf : GoodIn wsX8_firstOther (wsV RX8 255 RX8 yX8_worthOf wsX8_worthOf) := goodIn_app (goodIn_of _ (by decide +kernel)) ggX8_firstOther_X8_worthOf
theorem dX8_firstOther_0 : decode cX8_firstOther 0 = .ok (.iconst 0, 1) := by decide +kernel
theorem dX8_firstOther_1 : decode cX8_firstOther 1 = .ok (.istore 4, 2) := by decide +kernel
theorem dX8_firstOther_3 : decode cX8_firstOther 3 = .ok (.iload 4, 2) := by decide +kernel
theorem dX8_firstOther_5 : decode cX8_firstOther 5 = .ok (.aload_n 0, 1) := by decide +kernel
theorem dX8_firstOther_6 : decode cX8_firstOther 6 = .ok (.getfield 51, 3) := by decide +kernel
theorem dX8_firstOther_9 : decode cX8_firstOther 9 = .ok (.iload_n 1, 1) := by decide +kernel
theorem dX8_firstOther_10 : decode cX8_firstOther 10 = .ok (.iaload, 1) := by decide +kernel
theorem dX8_firstOther_11 : decode cX8_firstOther 11 = .ok (.if_icmp .ge 35, 3) := by decide +kernel
theorem dX8_firstOther_14 : decode cX8_firstOther 14 = .ok (.aload_n 0, 1) := by decide +kernel
theorem dX8_firstOther_15 : decode cX8_firstOther 15 = .ok (.iload_n 2, 1) := by decide +kernel
theorem dX8_firstOther_16 : decode cX8_firstOther 16 = .ok (.iload 4, 2) := by decide +kernel
theorem dX8_firstOther_18 : decode cX8_firstOther 18 = .ok (.iload_n 3, 1) := by decide +kernel
theorem dX8_firstOther_19 : decode cX8_firstOther 19 = .ok (.invokevirtual 255, 3) := by decide +kernel
theorem dX8_firstOther_22 : decode cX8_firstOther 22 = .ok (.aload_n 0, 1) := by decide +kernel
theorem dX8_firstOther_23 : decode cX8_firstOther 23 = .ok (.getfield 54, 3) := by decide +kernel
theorem dX8_firstOther_26 : decode cX8_firstOther 26 = .ok (.bipush 40, 2) := by decide +kernel
theorem dX8_firstOther_28 : decode cX8_firstOther 28 = .ok (.iload_n 1, 1) := by decide +kernel
theorem dX8_firstOther_29 : decode cX8_firstOther 29 = .ok (.imul, 1) := by decide +kernel
theorem dX8_firstOther_30 : decode cX8_firstOther 30 = .ok (.iload 4, 2) := by decide +kernel
theorem dX8_firstOther_32 : decode cX8_firstOther 32 = .ok (.iadd, 1) := by decide +kernel
theorem dX8_firstOther_33 : decode cX8_firstOther 33 = .ok (.iaload, 1) := by decide +kernel
theorem dX8_firstOther_34 : decode cX8_firstOther 34 = .ok (.if_icmp .eq 6, 3) := by decide +kernel
theorem dX8_firstOther_37 : decode cX8_firstOther 37 = .ok (.iload 4, 2) := by decide +kernel
theorem dX8_firstOther_39 : decode cX8_firstOther 39 = .ok (.ireturn, 1) := by decide +kernel
theorem dX8_firstOther_40 : decode cX8_firstOther 40 = .ok (.iinc 4 1, 3) := by decide +kernel
theorem dX8_firstOther_43 : decode cX8_firstOther 43 = .ok (.goto (-40), 3) := by decide +kernel
theorem dX8_firstOther_46 : decode cX8_firstOther 46 = .ok (.iconst (-1), 1) := by decide +kernel
theorem dX8_firstOther_47 : decode cX8_firstOther 47 = .ok (.ireturn, 1) := by decide +kernel
set_option maxRecDepth 20000 in
theorem ggX8_tells_X8_isSheet : GoodIn wsX8_tells wsX8_isSheet := goodIn_r _ [12, 13, 14, 15, 11, 16] rfl (by decide +kernel)
set_option maxRecDepth 20000 in
theorem gX8_tells_X8_isSheet : GoodIn wsX8_tells (va_wsS RX8 286 yX8_isSheet wsX8_isSheet) := goodIn_app (goodIn_of _ (by decide +kernel)) ggX8_tells_X8_isSheet
set_option maxRecDepth 20000 in
theorem ggX8_tells_X8_isOne : GoodIn wsX8_tells wsX8_isOne := goodIn_r _ [20, 21, 14, 15, 11, 16, 152, 153, 154, 155, 156, 157, 158, 159, 160, 161, 162, 163, 164, 165, 166, 167, 168, 169, 170, 171, 172, 173, 174, 175, 176, 177, 178, 179, 180, 181, 182, 183, 184, 185, 186, 187, 188, 189, 190, 191, 192, 193, 194, 195] rfl (by decide +kernel)
set_option maxRecDepth 20000 in
theorem gX8_tells_X8_isOne : GoodIn wsX8_tells (wsV RX8 75 RX8 yX8_isOne wsX8_isOne) := goodIn_app (goodIn_of _ (by decide +kernel)) ggX8_tells_X8_isOne
set_option maxRecDepth 20000 in
theorem ggX8_tells_X8_in : GoodIn wsX8_tells wsX8_in := goodIn_r _ [16] rfl (by decide +kernel)
set_option maxRecDepth 20000 in
theorem gX8_tells_X8_in : GoodIn wsX8_tells (va_wsS RX8 67 yX8_in wsX8_in) := goodIn_app (goodIn_of _ (by decide +kernel)) ggX8_tells_X8_in
set_option maxRecDepth 20000 in
theorem ggX8_tells_X8_shakenMany : GoodIn wsX8_tells wsX8_shakenMany := goodIn_r _ [25, 21, 6, 152, 153, 154, 155, 156, 157, 158, 159, 160, 161, 162, 163, 164, 165, 166, 167, 168, 169, 170, 171, 172, 173, 174, 175, 176, 177, 178, 179, 180, 181, 182, 183, 184, 185, 186, 187, 188, 189, 190, 191, 192, 193, 194, 195] rfl (by decide +kernel)
set_option maxRecDepth 20000 in
theorem gX8_tells_X8_shakenMany : GoodIn wsX8_tells (wsV RX8 252 RX8 yX8_shakenMany wsX8_shakenMany) := goodIn_app (goodIn_of _ (by decide +kernel)) ggX8_tells_X8_shakenMany
set_option maxRecDepth 20000 in
theorem ggX8_tells_X8_firstOther : GoodIn wsX8_tells wsX8_firstOther := goodIn_r _ [29, 5, 30, 31, 32, 33, 11, 34, 35, 6, 36, 37, 38, 39, 40, 41, 42, 43, 44, 45, 46, 7, 47, 48, 49, 50, 51, 52, 53, 54, 55, 56, 57, 58, 59, 60, 61, 62, 63, 64, 65, 66, 67, 68, 69, 70, 71, 72, 2, 73, 74, 75, 76, 77, 14, 15, 16, 78, 79, 80, 81, 82, 83, 84, 85, 86, 87, 88, 89, 90, 91, 92, 93, 94, 95, 96, 97, 98, 99, 100, 101, 102, 103, 104, 105, 106, 107, 108, 109, 110, 111, 112, 113, 114, 115, 116, 117, 118, 119, 120, 121, 122, 123, 124, 125, 126, 127, 128, 129, 130, 131, 132, 133, 134, 135, 152, 153, 154, 155, 156, 157, 158, 159, 160, 161, 162, 163, 164, 165, 166, 167, 168, 169, 170, 171, 172, 173, 174, 175, 176, 177, 178, 179, 180, 181, 182, 183, 184, 185, 186, 187, 188, 189, 190, 191, 192, 193, 194, 195] rfl (by decide +kernel)
set_option maxRecDepth 20000 in
theorem gX8_tells_X8_firstOther : GoodIn wsX8_tells (wsV RX8 323 RX8 yX8_firstOther wsX8_firstOther) := goodIn_app (goodIn_of _ (by decide +kernel)) ggX8_tells_X8_firstOther
set_option maxRecDepth 20000 in
theorem ggX8_tells_X8_told : GoodIn wsX8_tells wsX8_told := goodIn_r _ [139, 1, 45, 51, 6, 35, 14, 15, 11, 16, 140, 141, 142, 143, 144, 17, 18, 19, 20, 21, 145, 146, 147, 152, 153, 154, 155, 156, 157, 158, 159, 160, 161, 162, 163, 164, 165, 166, 167, 168, 169, 170, 171, 172, 173, 174, 175, 176, 177, 178, 179, 180, 181, 182, 183, 184, 185, 186, 187, 188, 189, 190, 191, 192, 193, 194, 195] rfl (by decide +kernel)
set_option maxRecDepth 20000 in
theorem gX8_tells_X8_told : GoodIn wsX8_tells (wsV RX8 89 RX8 yX8_told wsX8_told) := goodIn_app (goodIn_of _ (by decide +kernel)) ggX8_tells_X8_told
set_option maxRecDepth 20000 in
theorem ggX8_tells_X8_lays : GoodIn wsX8_tells wsX8_lays := goodIn_r _ [151, 45, 51, 6, 35, 7, 145, 146, 11, 147, 152, 153, 154, 155, 156, 157, 158, 159, 160, 161, 162, 163, 164, 165, 166, 167, 168, 169, 170, 171, 172, 173, 174, 175, 176, 177, 178, 179, 180, 181, 182, 183, 184, 185, 186, 187, 188, 189, 190, 191, 192, 193, 194, 195] rfl (by decide +kernel)
set_option maxRecDepth 20000 in
theorem gX8_tells_X8_lays : GoodIn wsX8_tells (wsV RX8 93 RX8 yX8_lays wsX8_lays) := goodIn_app (goodIn_of _ (by decide +kernel)) ggX8_tells_X8_lays
theorem dX8_tells_0 : decode cX8_tells 0 = .ok (.iload_n 1, 1) := by decide +kernel
theorem dX8_tells_1 : decode cX8_tells 1 = .ok (.invokestatic 286, 3) := by decide +kernel
theorem dX8_tells_4 : decode cX8_tells 4 = .ok (.ifCond .eq 37, 3) := by decide +kernel
theorem dX8_tells_7 : decode cX8_tells 7 = .ok (.aload_n 0, 1) := by decide +kernel
theorem dX8_tells_8 : decode cX8_tells 8 = .ok (.iload_n 2, 1) := by decide +kernel
theorem dX8_tells_9 : decode cX8_tells 9 = .ok (.invokevirtual 75, 3) := by decide +kernel
theorem dX8_tells_12 : decode cX8_tells 12 = .ok (.ifCond .eq 29, 3) := by decide +kernel
theorem dX8_tells_15 : decode cX8_tells 15 = .ok (.iload_n 3, 1) := by decide +kernel
theorem dX8_tells_16 : decode cX8_tells 16 = .ok (.i2l, 1) := by decide +kernel
theorem dX8_tells_17 : decode cX8_tells 17 = .ok (.lconst 0, 1) := by decide +kernel
theorem dX8_tells_18 : decode cX8_tells 18 = .ok (.ldc2_w 106, 3) := by decide +kernel
theorem dX8_tells_21 : decode cX8_tells 21 = .ok (.invokestatic 67, 3) := by decide +kernel
theorem dX8_tells_24 : decode cX8_tells 24 = .ok (.ifCond .ne 20, 3) := by decide +kernel
theorem dX8_tells_27 : decode cX8_tells 27 = .ok (.iload_n 3, 1) := by decide +kernel
theorem dX8_tells_28 : decode cX8_tells 28 = .ok (.i2l, 1) := by decide +kernel
theorem dX8_tells_29 : decode cX8_tells 29 = .ok (.ldc2_w 145, 3) := by decide +kernel
theorem dX8_tells_32 : decode cX8_tells 32 = .ok (.ldc2_w 321, 3) := by decide +kernel
theorem dX8_tells_35 : decode cX8_tells 35 = .ok (.invokestatic 67, 3) := by decide +kernel
theorem dX8_tells_38 : decode cX8_tells 38 = .ok (.ifCond .ne 6, 3) := by decide +kernel
theorem dX8_tells_41 : decode cX8_tells 41 = .ok (.bipush (-2), 2) := by decide +kernel
theorem dX8_tells_43 : decode cX8_tells 43 = .ok (.ireturn, 1) := by decide +kernel
theorem dX8_tells_44 : decode cX8_tells 44 = .ok (.aload_n 0, 1) := by decide +kernel
theorem dX8_tells_45 : decode cX8_tells 45 = .ok (.getfield 44, 3) := by decide +kernel
theorem dX8_tells_48 : decode cX8_tells 48 = .ok (.iload_n 1, 1) := by decide +kernel
theorem dX8_tells_49 : decode cX8_tells 49 = .ok (.baload, 1) := by decide +kernel
theorem dX8_tells_50 : decode cX8_tells 50 = .ok (.ifCond .ne 6, 3) := by decide +kernel
theorem dX8_tells_53 : decode cX8_tells 53 = .ok (.bipush (-11), 2) := by decide +kernel
theorem dX8_tells_55 : decode cX8_tells 55 = .ok (.ireturn, 1) := by decide +kernel
theorem dX8_tells_56 : decode cX8_tells 56 = .ok (.aload_n 0, 1) := by decide +kernel
theorem dX8_tells_57 : decode cX8_tells 57 = .ok (.getfield 51, 3) := by decide +kernel
theorem dX8_tells_60 : decode cX8_tells 60 = .ok (.iload_n 1, 1) := by decide +kernel
theorem dX8_tells_61 : decode cX8_tells 61 = .ok (.iaload, 1) := by decide +kernel
theorem dX8_tells_62 : decode cX8_tells 62 = .ok (.bipush 24, 2) := by decide +kernel
theorem dX8_tells_64 : decode cX8_tells 64 = .ok (.if_icmp .le 6, 3) := by decide +kernel
theorem dX8_tells_67 : decode cX8_tells 67 = .ok (.bipush (-2), 2) := by decide +kernel
theorem dX8_tells_69 : decode cX8_tells 69 = .ok (.ireturn, 1) := by decide +kernel
theorem dX8_tells_70 : decode cX8_tells 70 = .ok (.aload_n 0, 1) := by decide +kernel
theorem dX8_tells_71 : decode cX8_tells 71 = .ok (.invokevirtual 252, 3) := by decide +kernel
theorem dX8_tells_74 : decode cX8_tells 74 = .ok (.istore 4, 2) := by decide +kernel
theorem dX8_tells_76 : decode cX8_tells 76 = .ok (.iload_n 3, 1) := by decide +kernel
theorem dX8_tells_77 : decode cX8_tells 77 = .ok (.ifCond .ne 12, 3) := by decide +kernel
theorem dX8_tells_80 : decode cX8_tells 80 = .ok (.aload_n 0, 1) := by decide +kernel
theorem dX8_tells_81 : decode cX8_tells 81 = .ok (.iload_n 1, 1) := by decide +kernel
theorem dX8_tells_82 : decode cX8_tells 82 = .ok (.iload_n 2, 1) := by decide +kernel
theorem dX8_tells_83 : decode cX8_tells 83 = .ok (.iload 4, 2) := by decide +kernel
theorem dX8_tells_85 : decode cX8_tells 85 = .ok (.invokevirtual 323, 3) := by decide +kernel
theorem dX8_tells_88 : decode cX8_tells 88 = .ok (.ireturn, 1) := by decide +kernel
theorem dX8_tells_89 : decode cX8_tells 89 = .ok (.iconst 0, 1) := by decide +kernel
theorem dX8_tells_90 : decode cX8_tells 90 = .ok (.istore 5, 2) := by decide +kernel
theorem dX8_tells_92 : decode cX8_tells 92 = .ok (.iload_n 3, 1) := by decide +kernel
theorem dX8_tells_93 : decode cX8_tells 93 = .ok (.iconst 4, 1) := by decide +kernel
theorem dX8_tells_94 : decode cX8_tells 94 = .ok (.if_icmp .ne 47, 3) := by decide +kernel
theorem dX8_tells_97 : decode cX8_tells 97 = .ok (.iconst 0, 1) := by decide +kernel
theorem dX8_tells_98 : decode cX8_tells 98 = .ok (.istore 6, 2) := by decide +kernel
theorem dX8_tells_100 : decode cX8_tells 100 = .ok (.iload 6, 2) := by decide +kernel
theorem dX8_tells_102 : decode cX8_tells 102 = .ok (.bipush 6, 2) := by decide +kernel
theorem dX8_tells_104 : decode cX8_tells 104 = .ok (.if_icmp .gt 34, 3) := by decide +kernel
theorem dX8_tells_107 : decode cX8_tells 107 = .ok (.iload 5, 2) := by decide +kernel
theorem dX8_tells_109 : decode cX8_tells 109 = .ok (.aload_n 0, 1) := by decide +kernel
theorem dX8_tells_110 : decode cX8_tells 110 = .ok (.iload_n 1, 1) := by decide +kernel
theorem dX8_tells_111 : decode cX8_tells 111 = .ok (.iload_n 2, 1) := by decide +kernel
theorem dX8_tells_112 : decode cX8_tells 112 = .ok (.iload 6, 2) := by decide +kernel
theorem dX8_tells_114 : decode cX8_tells 114 = .ok (.invokevirtual 323, 3) := by decide +kernel
theorem dX8_tells_117 : decode cX8_tells 117 = .ok (.iconst (-1), 1) := by decide +kernel
theorem dX8_tells_118 : decode cX8_tells 118 = .ok (.if_icmp .ne 7, 3) := by decide +kernel
theorem dX8_tells_121 : decode cX8_tells 121 = .ok (.iconst 1, 1) := by decide +kernel
theorem dX8_tells_122 : decode cX8_tells 122 = .ok (.goto 4, 3) := by decide +kernel
theorem dX8_tells_125 : decode cX8_tells 125 = .ok (.iconst 0, 1) := by decide +kernel
theorem dX8_tells_126 : decode cX8_tells 126 = .ok (.iload 6, 2) := by decide +kernel
theorem dX8_tells_128 : decode cX8_tells 128 = .ok (.ishl, 1) := by decide +kernel
theorem dX8_tells_129 : decode cX8_tells 129 = .ok (.ior, 1) := by decide +kernel
theorem dX8_tells_130 : decode cX8_tells 130 = .ok (.istore 5, 2) := by decide +kernel
theorem dX8_tells_132 : decode cX8_tells 132 = .ok (.iinc 6 1, 3) := by decide +kernel
theorem dX8_tells_135 : decode cX8_tells 135 = .ok (.goto (-35), 3) := by decide +kernel
theorem dX8_tells_138 : decode cX8_tells 138 = .ok (.iload 5, 2) := by decide +kernel
theorem dX8_tells_140 : decode cX8_tells 140 = .ok (.ireturn, 1) := by decide +kernel
theorem dX8_tells_141 : decode cX8_tells 141 = .ok (.iload_n 3, 1) := by decide +kernel
theorem dX8_tells_142 : decode cX8_tells 142 = .ok (.iconst 1, 1) := by decide +kernel
theorem dX8_tells_143 : decode cX8_tells 143 = .ok (.if_icmp .ne 7, 3) := by decide +kernel
theorem dX8_tells_146 : decode cX8_tells 146 = .ok (.iconst 5, 1) := by decide +kernel
theorem dX8_tells_147 : decode cX8_tells 147 = .ok (.goto 32, 3) := by decide +kernel
theorem dX8_tells_150 : decode cX8_tells 150 = .ok (.iload_n 3, 1) := by decide +kernel
theorem dX8_tells_151 : decode cX8_tells 151 = .ok (.iconst 2, 1) := by decide +kernel
theorem dX8_tells_152 : decode cX8_tells 152 = .ok (.if_icmp .ne 7, 3) := by decide +kernel
theorem dX8_tells_155 : decode cX8_tells 155 = .ok (.iconst 2, 1) := by decide +kernel
theorem dX8_tells_156 : decode cX8_tells 156 = .ok (.goto 23, 3) := by decide +kernel
theorem dX8_tells_159 : decode cX8_tells 159 = .ok (.iload_n 3, 1) := by decide +kernel
theorem dX8_tells_160 : decode cX8_tells 160 = .ok (.iconst 3, 1) := by decide +kernel
theorem dX8_tells_161 : decode cX8_tells 161 = .ok (.if_icmp .ne 7, 3) := by decide +kernel
theorem dX8_tells_164 : decode cX8_tells 164 = .ok (.iconst 0, 1) := by decide +kernel
theorem dX8_tells_165 : decode cX8_tells 165 = .ok (.goto 14, 3) := by decide +kernel
theorem dX8_tells_168 : decode cX8_tells 168 = .ok (.iload_n 3, 1) := by decide +kernel
theorem dX8_tells_169 : decode cX8_tells 169 = .ok (.iconst 5, 1) := by decide +kernel
theorem dX8_tells_170 : decode cX8_tells 170 = .ok (.if_icmp .ne 8, 3) := by decide +kernel
theorem dX8_tells_173 : decode cX8_tells 173 = .ok (.bipush 6, 2) := by decide +kernel
theorem dX8_tells_175 : decode cX8_tells 175 = .ok (.goto 4, 3) := by decide +kernel
theorem dX8_tells_178 : decode cX8_tells 178 = .ok (.iconst 1, 1) := by decide +kernel
theorem dX8_tells_179 : decode cX8_tells 179 = .ok (.istore 6, 2) := by decide +kernel
theorem dX8_tells_181 : decode cX8_tells 181 = .ok (.iload 6, 2) := by decide +kernel
theorem dX8_tells_183 : decode cX8_tells 183 = .ok (.iconst 1, 1) := by decide +kernel
theorem dX8_tells_184 : decode cX8_tells 184 = .ok (.if_icmp .ne 24, 3) := by decide +kernel
theorem dX8_tells_187 : decode cX8_tells 187 = .ok (.bipush 100, 2) := by decide +kernel
theorem dX8_tells_189 : decode cX8_tells 189 = .ok (.aload_n 0, 1) := by decide +kernel
theorem dX8_tells_190 : decode cX8_tells 190 = .ok (.getfield 29, 3) := by decide +kernel
theorem dX8_tells_193 : decode cX8_tells 193 = .ok (.iconst 3, 1) := by decide +kernel
theorem dX8_tells_194 : decode cX8_tells 194 = .ok (.iload_n 2, 1) := by decide +kernel
theorem dX8_tells_195 : decode cX8_tells 195 = .ok (.imul, 1) := by decide +kernel
theorem dX8_tells_196 : decode cX8_tells 196 = .ok (.iconst 1, 1) := by decide +kernel
theorem dX8_tells_197 : decode cX8_tells 197 = .ok (.iadd, 1) := by decide +kernel
theorem dX8_tells_198 : decode cX8_tells 198 = .ok (.iaload, 1) := by decide +kernel
theorem dX8_tells_199 : decode cX8_tells 199 = .ok (.imul, 1) := by decide +kernel
theorem dX8_tells_200 : decode cX8_tells 200 = .ok (.iload_n 3, 1) := by decide +kernel
theorem dX8_tells_201 : decode cX8_tells 201 = .ok (.iadd, 1) := by decide +kernel
theorem dX8_tells_202 : decode cX8_tells 202 = .ok (.bipush 10, 2) := by decide +kernel
theorem dX8_tells_204 : decode cX8_tells 204 = .ok (.isub, 1) := by decide +kernel
theorem dX8_tells_205 : decode cX8_tells 205 = .ok (.goto 4, 3) := by decide +kernel
theorem dX8_tells_208 : decode cX8_tells 208 = .ok (.iload_n 2, 1) := by decide +kernel
theorem dX8_tells_209 : decode cX8_tells 209 = .ok (.istore 7, 2) := by decide +kernel
theorem dX8_tells_211 : decode cX8_tells 211 = .ok (.iload 6, 2) := by decide +kernel
theorem dX8_tells_213 : decode cX8_tells 213 = .ok (.bipush 6, 2) := by decide +kernel
theorem dX8_tells_215 : decode cX8_tells 215 = .ok (.if_icmp .ne 10, 3) := by decide +kernel
theorem dX8_tells_218 : decode cX8_tells 218 = .ok (.aload_n 0, 1) := by decide +kernel
theorem dX8_tells_219 : decode cX8_tells 219 = .ok (.getfield 103, 3) := by decide +kernel
theorem dX8_tells_222 : decode cX8_tells 222 = .ok (.goto 11, 3) := by decide +kernel
theorem dX8_tells_225 : decode cX8_tells 225 = .ok (.aload_n 0, 1) := by decide +kernel
theorem dX8_tells_226 : decode cX8_tells 226 = .ok (.iload 7, 2) := by decide +kernel
theorem dX8_tells_228 : decode cX8_tells 228 = .ok (.iload 6, 2) := by decide +kernel
theorem dX8_tells_230 : decode cX8_tells 230 = .ok (.invokevirtual 89, 3) := by decide +kernel
theorem dX8_tells_233 : decode cX8_tells 233 = .ok (.istore 8, 2) := by decide +kernel
theorem dX8_tells_235 : decode cX8_tells 235 = .ok (.iload 6, 2) := by decide +kernel
theorem dX8_tells_237 : decode cX8_tells 237 = .ok (.bipush 6, 2) := by decide +kernel
theorem dX8_tells_239 : decode cX8_tells 239 = .ok (.if_icmp .ne 12, 3) := by decide +kernel
theorem dX8_tells_242 : decode cX8_tells 242 = .ok (.aload_n 0, 1) := by decide +kernel
theorem dX8_tells_243 : decode cX8_tells 243 = .ok (.getfield 61, 3) := by decide +kernel
theorem dX8_tells_246 : decode cX8_tells 246 = .ok (.iconst 1, 1) := by decide +kernel
theorem dX8_tells_247 : decode cX8_tells 247 = .ok (.isub, 1) := by decide +kernel
theorem dX8_tells_248 : decode cX8_tells 248 = .ok (.goto 15, 3) := by decide +kernel
theorem dX8_tells_251 : decode cX8_tells 251 = .ok (.iload 6, 2) := by decide +kernel
theorem dX8_tells_253 : decode cX8_tells 253 = .ok (.iconst 5, 1) := by decide +kernel
theorem dX8_tells_254 : decode cX8_tells 254 = .ok (.if_icmp .ne 7, 3) := by decide +kernel
theorem dX8_tells_257 : decode cX8_tells 257 = .ok (.iconst 5, 1) := by decide +kernel
theorem dX8_tells_258 : decode cX8_tells 258 = .ok (.goto 5, 3) := by decide +kernel
theorem dX8_tells_261 : decode cX8_tells 261 = .ok (.bipush 9, 2) := by decide +kernel
theorem dX8_tells_263 : decode cX8_tells 263 = .ok (.istore 9, 2) := by decide +kernel
theorem dX8_tells_265 : decode cX8_tells 265 = .ok (.iconst 0, 1) := by decide +kernel
theorem dX8_tells_266 : decode cX8_tells 266 = .ok (.istore 10, 2) := by decide +kernel
theorem dX8_tells_268 : decode cX8_tells 268 = .ok (.iload 10, 2) := by decide +kernel
theorem dX8_tells_270 : decode cX8_tells 270 = .ok (.iload 9, 2) := by decide +kernel
theorem dX8_tells_272 : decode cX8_tells 272 = .ok (.if_icmp .gt 44, 3) := by decide +kernel
theorem dX8_tells_275 : decode cX8_tells 275 = .ok (.aload_n 0, 1) := by decide +kernel
theorem dX8_tells_276 : decode cX8_tells 276 = .ok (.iload 6, 2) := by decide +kernel
theorem dX8_tells_278 : decode cX8_tells 278 = .ok (.iload 7, 2) := by decide +kernel
theorem dX8_tells_280 : decode cX8_tells 280 = .ok (.iload 10, 2) := by decide +kernel
theorem dX8_tells_282 : decode cX8_tells 282 = .ok (.invokevirtual 93, 3) := by decide +kernel
theorem dX8_tells_285 : decode cX8_tells 285 = .ok (.iload 5, 2) := by decide +kernel
theorem dX8_tells_287 : decode cX8_tells 287 = .ok (.aload_n 0, 1) := by decide +kernel
theorem dX8_tells_288 : decode cX8_tells 288 = .ok (.iload_n 1, 1) := by decide +kernel
theorem dX8_tells_289 : decode cX8_tells 289 = .ok (.iload_n 2, 1) := by decide +kernel
theorem dX8_tells_290 : decode cX8_tells 290 = .ok (.iload 4, 2) := by decide +kernel
theorem dX8_tells_292 : decode cX8_tells 292 = .ok (.invokevirtual 323, 3) := by decide +kernel
theorem dX8_tells_295 : decode cX8_tells 295 = .ok (.iconst (-1), 1) := by decide +kernel
theorem dX8_tells_296 : decode cX8_tells 296 = .ok (.if_icmp .ne 7, 3) := by decide +kernel
theorem dX8_tells_299 : decode cX8_tells 299 = .ok (.iconst 1, 1) := by decide +kernel
theorem dX8_tells_300 : decode cX8_tells 300 = .ok (.goto 4, 3) := by decide +kernel
theorem dX8_tells_303 : decode cX8_tells 303 = .ok (.iconst 0, 1) := by decide +kernel
theorem dX8_tells_304 : decode cX8_tells 304 = .ok (.iload 10, 2) := by decide +kernel
theorem dX8_tells_306 : decode cX8_tells 306 = .ok (.ishl, 1) := by decide +kernel
theorem dX8_tells_307 : decode cX8_tells 307 = .ok (.ior, 1) := by decide +kernel
theorem dX8_tells_308 : decode cX8_tells 308 = .ok (.istore 5, 2) := by decide +kernel
theorem dX8_tells_310 : decode cX8_tells 310 = .ok (.iinc 10 1, 3) := by decide +kernel
theorem dX8_tells_313 : decode cX8_tells 313 = .ok (.goto (-45), 3) := by decide +kernel
theorem dX8_tells_316 : decode cX8_tells 316 = .ok (.aload_n 0, 1) := by decide +kernel
theorem dX8_tells_317 : decode cX8_tells 317 = .ok (.iload 6, 2) := by decide +kernel
theorem dX8_tells_319 : decode cX8_tells 319 = .ok (.iload 7, 2) := by decide +kernel
theorem dX8_tells_321 : decode cX8_tells 321 = .ok (.iload 8, 2) := by decide +kernel
theorem dX8_tells_323 : decode cX8_tells 323 = .ok (.invokevirtual 93, 3) := by decide +kernel
theorem dX8_tells_326 : decode cX8_tells 326 = .ok (.iload 5, 2) := by decide +kernel
theorem dX8_tells_328 : decode cX8_tells 328 = .ok (.ireturn, 1) := by decide +kernel
set_option maxRecDepth 20000 in
theorem ggX8_film_X8_isSheet : GoodIn wsX8_film wsX8_isSheet := goodIn_r _ [6, 7, 8, 9, 5, 10] rfl (by decide +kernel)
set_option maxRecDepth 20000 in
theorem gX8_film_X8_isSheet : GoodIn wsX8_film (va_wsS RX8 286 yX8_isSheet wsX8_isSheet) := goodIn_app (goodIn_of _ (by decide +kernel)) ggX8_film_X8_isSheet
set_option maxRecDepth 20000 in
theorem ggX8_film_X8_isOne : GoodIn wsX8_film wsX8_isOne := goodIn_r _ [14, 15, 8, 9, 5, 10, 137, 138, 139, 140, 141, 142, 143, 144, 145, 146, 147, 148, 149, 150, 151, 152, 153, 154, 155, 156, 157, 158, 159, 160, 161, 162, 163, 164, 165, 166, 167, 168, 169, 170, 171, 172, 173, 174, 175, 176, 177, 178, 179, 180] rfl (by decide +kernel)
set_option maxRecDepth 20000 in
theorem gX8_film_X8_isOne : GoodIn wsX8_film (wsV RX8 75 RX8 yX8_isOne wsX8_isOne) := goodIn_app (goodIn_of _ (by decide +kernel)) ggX8_film_X8_isOne
set_option maxRecDepth 20000 in
theorem ggX8_film_X8_in : GoodIn wsX8_film wsX8_in := goodIn_r _ [10] rfl (by decide +kernel)
set_option maxRecDepth 20000 in
theorem gX8_film_X8_in : GoodIn wsX8_film (va_wsS RX8 67 yX8_in wsX8_in) := goodIn_app (goodIn_of _ (by decide +kernel)) ggX8_film_X8_in
set_option maxRecDepth 20000 in
theorem ggX8_film_X8_sheet : GoodIn wsX8_film wsX8_sheet := goodIn_r _ [19, 20, 21, 22, 23, 24, 2, 3, 4, 5, 6, 7, 8, 9, 10, 137, 138, 139, 140, 141, 142, 143, 144, 145, 146, 147, 148, 149, 150, 151, 152, 153, 154, 155, 156, 157, 158, 159, 160, 161, 162, 163, 164, 165, 166, 167, 168, 169, 170, 171, 172, 173, 174, 175, 176, 177, 178, 179, 180] rfl (by decide +kernel)
set_option maxRecDepth 20000 in
theorem gX8_film_X8_sheet : GoodIn wsX8_film (wsV RX8 328 RX8 yX8_sheet wsX8_sheet) := goodIn_app (goodIn_of _ (by decide +kernel)) ggX8_film_X8_sheet
set_option maxRecDepth 20000 in
theorem ggX8_film_X8_shakenMany : GoodIn wsX8_film wsX8_shakenMany := goodIn_r _ [28, 15, 29, 137, 138, 139, 140, 141, 142, 143, 144, 145, 146, 147, 148, 149, 150, 151, 152, 153, 154, 155, 156, 157, 158, 159, 160, 161, 162, 163, 164, 165, 166, 167, 168, 169, 170, 171, 172, 173, 174, 175, 176, 177, 178, 179, 180] rfl (by decide +kernel)
set_option maxRecDepth 20000 in
theorem gX8_film_X8_shakenMany : GoodIn wsX8_film (wsV RX8 252 RX8 yX8_shakenMany wsX8_shakenMany) := goodIn_app (goodIn_of _ (by decide +kernel)) ggX8_film_X8_shakenMany
set_option maxRecDepth 20000 in
theorem ggX8_film_X8_worthOf : GoodIn wsX8_film wsX8_worthOf := goodIn_r _ [33, 34, 29, 35, 36, 37, 5, 38, 39, 40, 41, 42, 43, 44, 45, 46, 47, 48, 49, 50, 51, 52, 53, 54, 55, 56, 57, 58, 59, 60, 61, 62, 63, 64, 65, 66, 67, 68, 69, 70, 71, 72, 73, 74, 75, 76, 77, 78, 8, 9, 10, 79, 80, 81, 82, 83, 84, 85, 86, 87, 88, 89, 90, 91, 92, 93, 94, 95, 96, 97, 98, 99, 100, 101, 102, 103, 104, 105, 106, 107, 108, 109, 110, 111, 112, 113, 114, 115, 116, 117, 118, 119, 120, 121, 122, 123, 124, 125, 126, 127, 128, 129, 130, 131, 132, 133, 134, 135, 136, 137, 138, 139, 140, 141, 142, 143, 144, 145, 146, 147, 148, 149, 150, 151, 152, 153, 154, 155, 156, 157, 158, 159, 160, 161, 162, 163, 164, 165, 166, 167, 168, 169, 170, 171, 172, 173, 174, 175, 176, 177, 178, 179, 180] rfl (by decide +kernel)
set_option maxRecDepth 20000 in
theorem gX8_film_X8_worthOf : GoodIn wsX8_film (wsV RX8 255 RX8 yX8_worthOf wsX8_worthOf) := goodIn_app (goodIn_of _ (by decide +kernel)) ggX8_film_X8_worthOf
theorem dX8_film_0 : decode cX8_film 0 = .ok (.iload_n 1, 1) := by decide +kernel
theorem dX8_film_1 : decode cX8_film 1 = .ok (.invokestatic 286, 3) := by decide +kernel
theorem dX8_film_4 : decode cX8_film 4 = .ok (.ifCond .eq 23, 3) := by decide +kernel
theorem dX8_film_7 : decode cX8_film 7 = .ok (.aload_n 0, 1) := by decide +kernel
theorem dX8_film_8 : decode cX8_film 8 = .ok (.iload_n 2, 1) := by decide +kernel
theorem dX8_film_9 : decode cX8_film 9 = .ok (.invokevirtual 75, 3) := by decide +kernel
theorem dX8_film_12 : decode cX8_film 12 = .ok (.ifCond .eq 15, 3) := by decide +kernel
theorem dX8_film_15 : decode cX8_film 15 = .ok (.iload_n 3, 1) := by decide +kernel
theorem dX8_film_16 : decode cX8_film 16 = .ok (.i2l, 1) := by decide +kernel
theorem dX8_film_17 : decode cX8_film 17 = .ok (.lconst 0, 1) := by decide +kernel
theorem dX8_film_18 : decode cX8_film 18 = .ok (.ldc2_w 326, 3) := by decide +kernel
theorem dX8_film_21 : decode cX8_film 21 = .ok (.invokestatic 67, 3) := by decide +kernel
theorem dX8_film_24 : decode cX8_film 24 = .ok (.ifCond .ne 6, 3) := by decide +kernel
theorem dX8_film_27 : decode cX8_film 27 = .ok (.bipush (-2), 2) := by decide +kernel
theorem dX8_film_29 : decode cX8_film 29 = .ok (.ireturn, 1) := by decide +kernel
theorem dX8_film_30 : decode cX8_film 30 = .ok (.aload_n 0, 1) := by decide +kernel
theorem dX8_film_31 : decode cX8_film 31 = .ok (.iload_n 1, 1) := by decide +kernel
theorem dX8_film_32 : decode cX8_film 32 = .ok (.iconst 1, 1) := by decide +kernel
theorem dX8_film_33 : decode cX8_film 33 = .ok (.iload_n 3, 1) := by decide +kernel
theorem dX8_film_34 : decode cX8_film 34 = .ok (.invokevirtual 328, 3) := by decide +kernel
theorem dX8_film_37 : decode cX8_film 37 = .ok (.pop, 1) := by decide +kernel
theorem dX8_film_38 : decode cX8_film 38 = .ok (.aload_n 0, 1) := by decide +kernel
theorem dX8_film_39 : decode cX8_film 39 = .ok (.invokevirtual 252, 3) := by decide +kernel
theorem dX8_film_42 : decode cX8_film 42 = .ok (.istore 4, 2) := by decide +kernel
theorem dX8_film_44 : decode cX8_film 44 = .ok (.iconst 0, 1) := by decide +kernel
theorem dX8_film_45 : decode cX8_film 45 = .ok (.istore 5, 2) := by decide +kernel
theorem dX8_film_47 : decode cX8_film 47 = .ok (.iload 5, 2) := by decide +kernel
theorem dX8_film_49 : decode cX8_film 49 = .ok (.iload_n 3, 1) := by decide +kernel
theorem dX8_film_50 : decode cX8_film 50 = .ok (.if_icmp .ge 30, 3) := by decide +kernel
theorem dX8_film_53 : decode cX8_film 53 = .ok (.aload_n 0, 1) := by decide +kernel
theorem dX8_film_54 : decode cX8_film 54 = .ok (.getfield 54, 3) := by decide +kernel
theorem dX8_film_57 : decode cX8_film 57 = .ok (.bipush 40, 2) := by decide +kernel
theorem dX8_film_59 : decode cX8_film 59 = .ok (.iload_n 1, 1) := by decide +kernel
theorem dX8_film_60 : decode cX8_film 60 = .ok (.imul, 1) := by decide +kernel
theorem dX8_film_61 : decode cX8_film 61 = .ok (.iload 5, 2) := by decide +kernel
theorem dX8_film_63 : decode cX8_film 63 = .ok (.iadd, 1) := by decide +kernel
theorem dX8_film_64 : decode cX8_film 64 = .ok (.aload_n 0, 1) := by decide +kernel
theorem dX8_film_65 : decode cX8_film 65 = .ok (.iload_n 2, 1) := by decide +kernel
theorem dX8_film_66 : decode cX8_film 66 = .ok (.iload 5, 2) := by decide +kernel
theorem dX8_film_68 : decode cX8_film 68 = .ok (.iload 4, 2) := by decide +kernel
theorem dX8_film_70 : decode cX8_film 70 = .ok (.invokevirtual 255, 3) := by decide +kernel
theorem dX8_film_73 : decode cX8_film 73 = .ok (.iastore, 1) := by decide +kernel
theorem dX8_film_74 : decode cX8_film 74 = .ok (.iinc 5 1, 3) := by decide +kernel
theorem dX8_film_77 : decode cX8_film 77 = .ok (.goto (-30), 3) := by decide +kernel
theorem dX8_film_80 : decode cX8_film 80 = .ok (.iload_n 3, 1) := by decide +kernel
theorem dX8_film_81 : decode cX8_film 81 = .ok (.ireturn, 1) := by decide +kernel
set_option maxRecDepth 20000 in
theorem ggX8_gainBy_X8_begins : GoodIn wsX8_gainBy wsX8_begins := goodIn_r _ [10, 5, 11, 12, 13, 14, 153, 154, 155, 156, 157, 158, 159, 160, 161, 162, 163, 164, 165, 166, 167, 168, 169, 170, 171, 172, 173, 174, 175, 176, 177, 178, 179, 180, 181, 182, 183, 184, 185, 186, 187, 188, 189, 190, 191, 192, 193, 194, 195, 196] rfl (by decide +kernel)
set_option maxRecDepth 20000 in
theorem gX8_gainBy_X8_begins : GoodIn wsX8_gainBy (wsV RX8 279 RX8 yX8_begins wsX8_begins) := goodIn_app (goodIn_of _ (by decide +kernel)) ggX8_gainBy_X8_begins
set_option maxRecDepth 20000 in
theorem ggX8_gainBy_X8_isShaken : GoodIn wsX8_gainBy wsX8_isShaken := goodIn_r _ [18, 19, 153, 154, 155, 156, 157, 158, 159, 160, 161, 162, 163, 164, 165, 166, 167, 168, 169, 170, 171, 172, 173, 174, 175, 176, 177, 178, 179, 180, 181, 182, 183, 184, 185, 186, 187, 188, 189, 190, 191, 192, 193, 194, 195, 196] rfl (by decide +kernel)
set_option maxRecDepth 20000 in
theorem gX8_gainBy_X8_isShaken : GoodIn wsX8_gainBy (wsV RX8 276 RX8 yX8_isShaken wsX8_isShaken) := goodIn_app (goodIn_of _ (by decide +kernel)) ggX8_gainBy_X8_isShaken
set_option maxRecDepth 20000 in
theorem ggX8_gainBy_X8_deals : GoodIn wsX8_gainBy wsX8_deals := goodIn_r _ [23, 11, 12, 13, 5, 14, 24, 25, 26, 9, 27, 4, 19, 28, 29, 30, 31, 32, 33, 34, 35, 36, 37, 38, 39, 40, 41, 42, 43, 44, 45, 46, 47, 48, 49, 50, 51, 52, 53, 54, 55, 56, 2, 57, 58, 59, 60, 61, 62, 63, 64, 65, 66, 67, 68, 69, 70, 71, 72, 73, 74, 75, 76, 77, 78, 79, 80, 81, 82, 83, 84, 85, 86, 87, 88, 89, 90, 91, 92, 93, 94, 95, 96, 97, 98, 99, 100, 101, 102, 103, 104, 105, 106, 107, 108, 109, 110, 111, 112, 113, 114, 115, 116, 117, 118, 119, 120, 121, 122, 123, 124, 125, 126, 127, 128, 129, 130, 131, 132, 133, 134, 135, 136, 137, 138, 139, 140, 141, 142, 143, 144, 145, 146, 147, 148, 149, 150, 151, 152, 153, 154, 155, 156, 157, 158, 159, 160, 161, 162, 163, 164, 165, 166, 167, 168, 169, 170, 171, 172, 173, 174, 175, 176, 177, 178, 179, 180, 181, 182, 183, 184, 185, 186, 187, 188, 189, 190, 191, 192, 193, 194, 195, 196] rfl (by decide +kernel)
set_option maxRecDepth 20000 in
theorem gX8_gainBy_X8_deals : GoodIn wsX8_gainBy (wsV RX8 282 RX8 yX8_deals wsX8_deals) := goodIn_app (goodIn_of _ (by decide +kernel)) ggX8_gainBy_X8_deals
theorem dX8_gainBy_0 : decode cX8_gainBy 0 = .ok (.iload_n 1, 1) := by decide +kernel
theorem dX8_gainBy_1 : decode cX8_gainBy 1 = .ok (.istore_n 2, 1) := by decide +kernel
theorem dX8_gainBy_2 : decode cX8_gainBy 2 = .ok (.iconst 0, 1) := by decide +kernel
theorem dX8_gainBy_3 : decode cX8_gainBy 3 = .ok (.istore_n 3, 1) := by decide +kernel
theorem dX8_gainBy_4 : decode cX8_gainBy 4 = .ok (.iload_n 3, 1) := by decide +kernel
theorem dX8_gainBy_5 : decode cX8_gainBy 5 = .ok (.bipush 48, 2) := by decide +kernel
theorem dX8_gainBy_7 : decode cX8_gainBy 7 = .ok (.if_icmp .ge 58, 3) := by decide +kernel
theorem dX8_gainBy_10 : decode cX8_gainBy 10 = .ok (.aload_n 0, 1) := by decide +kernel
theorem dX8_gainBy_11 : decode cX8_gainBy 11 = .ok (.getfield 32, 3) := by decide +kernel
theorem dX8_gainBy_14 : decode cX8_gainBy 14 = .ok (.iload_n 3, 1) := by decide +kernel
theorem dX8_gainBy_15 : decode cX8_gainBy 15 = .ok (.aload_n 0, 1) := by decide +kernel
theorem dX8_gainBy_16 : decode cX8_gainBy 16 = .ok (.getfield 23, 3) := by decide +kernel
theorem dX8_gainBy_19 : decode cX8_gainBy 19 = .ok (.iload_n 3, 1) := by decide +kernel
theorem dX8_gainBy_20 : decode cX8_gainBy 20 = .ok (.iaload, 1) := by decide +kernel
theorem dX8_gainBy_21 : decode cX8_gainBy 21 = .ok (.iastore, 1) := by decide +kernel
theorem dX8_gainBy_22 : decode cX8_gainBy 22 = .ok (.iload_n 2, 1) := by decide +kernel
theorem dX8_gainBy_23 : decode cX8_gainBy 23 = .ok (.ldc_w 331, 3) := by decide +kernel
theorem dX8_gainBy_26 : decode cX8_gainBy 26 = .ok (.imul, 1) := by decide +kernel
theorem dX8_gainBy_27 : decode cX8_gainBy 27 = .ok (.sipush 12345, 3) := by decide +kernel
theorem dX8_gainBy_30 : decode cX8_gainBy 30 = .ok (.iadd, 1) := by decide +kernel
theorem dX8_gainBy_31 : decode cX8_gainBy 31 = .ok (.istore_n 2, 1) := by decide +kernel
theorem dX8_gainBy_32 : decode cX8_gainBy 32 = .ok (.iload_n 2, 1) := by decide +kernel
theorem dX8_gainBy_33 : decode cX8_gainBy 33 = .ok (.bipush 9, 2) := by decide +kernel
theorem dX8_gainBy_35 : decode cX8_gainBy 35 = .ok (.iushr, 1) := by decide +kernel
theorem dX8_gainBy_36 : decode cX8_gainBy 36 = .ok (.bipush 10, 2) := by decide +kernel
theorem dX8_gainBy_38 : decode cX8_gainBy 38 = .ok (.irem, 1) := by decide +kernel
theorem dX8_gainBy_39 : decode cX8_gainBy 39 = .ok (.istore 4, 2) := by decide +kernel
theorem dX8_gainBy_41 : decode cX8_gainBy 41 = .ok (.aload_n 0, 1) := by decide +kernel
theorem dX8_gainBy_42 : decode cX8_gainBy 42 = .ok (.getfield 23, 3) := by decide +kernel
theorem dX8_gainBy_45 : decode cX8_gainBy 45 = .ok (.iload_n 3, 1) := by decide +kernel
theorem dX8_gainBy_46 : decode cX8_gainBy 46 = .ok (.iload 4, 2) := by decide +kernel
theorem dX8_gainBy_48 : decode cX8_gainBy 48 = .ok (.iconst 4, 1) := by decide +kernel
theorem dX8_gainBy_49 : decode cX8_gainBy 49 = .ok (.if_icmp .ge 7, 3) := by decide +kernel
theorem dX8_gainBy_52 : decode cX8_gainBy 52 = .ok (.iconst 0, 1) := by decide +kernel
theorem dX8_gainBy_53 : decode cX8_gainBy 53 = .ok (.goto 5, 3) := by decide +kernel
theorem dX8_gainBy_56 : decode cX8_gainBy 56 = .ok (.iload 4, 2) := by decide +kernel
theorem dX8_gainBy_58 : decode cX8_gainBy 58 = .ok (.iastore, 1) := by decide +kernel
theorem dX8_gainBy_59 : decode cX8_gainBy 59 = .ok (.iinc 3 1, 3) := by decide +kernel
theorem dX8_gainBy_62 : decode cX8_gainBy 62 = .ok (.goto (-58), 3) := by decide +kernel
theorem dX8_gainBy_65 : decode cX8_gainBy 65 = .ok (.aload_n 0, 1) := by decide +kernel
theorem dX8_gainBy_66 : decode cX8_gainBy 66 = .ok (.invokevirtual 279, 3) := by decide +kernel
theorem dX8_gainBy_69 : decode cX8_gainBy 69 = .ok (.iconst 0, 1) := by decide +kernel
theorem dX8_gainBy_70 : decode cX8_gainBy 70 = .ok (.istore_n 3, 1) := by decide +kernel
theorem dX8_gainBy_71 : decode cX8_gainBy 71 = .ok (.iload_n 3, 1) := by decide +kernel
theorem dX8_gainBy_72 : decode cX8_gainBy 72 = .ok (.aload_n 0, 1) := by decide +kernel
theorem dX8_gainBy_73 : decode cX8_gainBy 73 = .ok (.getfield 64, 3) := by decide +kernel
theorem dX8_gainBy_76 : decode cX8_gainBy 76 = .ok (.if_icmp .ge 22, 3) := by decide +kernel
theorem dX8_gainBy_79 : decode cX8_gainBy 79 = .ok (.aload_n 0, 1) := by decide +kernel
theorem dX8_gainBy_80 : decode cX8_gainBy 80 = .ok (.iload_n 3, 1) := by decide +kernel
theorem dX8_gainBy_81 : decode cX8_gainBy 81 = .ok (.invokevirtual 276, 3) := by decide +kernel
theorem dX8_gainBy_84 : decode cX8_gainBy 84 = .ok (.ifCond .ne 8, 3) := by decide +kernel
theorem dX8_gainBy_87 : decode cX8_gainBy 87 = .ok (.aload_n 0, 1) := by decide +kernel
theorem dX8_gainBy_88 : decode cX8_gainBy 88 = .ok (.iload_n 3, 1) := by decide +kernel
theorem dX8_gainBy_89 : decode cX8_gainBy 89 = .ok (.invokevirtual 282, 3) := by decide +kernel
theorem dX8_gainBy_92 : decode cX8_gainBy 92 = .ok (.iinc 3 1, 3) := by decide +kernel
theorem dX8_gainBy_95 : decode cX8_gainBy 95 = .ok (.goto (-24), 3) := by decide +kernel
theorem dX8_gainBy_98 : decode cX8_gainBy 98 = .ok (.iconst 0, 1) := by decide +kernel
theorem dX8_gainBy_99 : decode cX8_gainBy 99 = .ok (.istore_n 3, 1) := by decide +kernel
theorem dX8_gainBy_100 : decode cX8_gainBy 100 = .ok (.iload_n 3, 1) := by decide +kernel
theorem dX8_gainBy_101 : decode cX8_gainBy 101 = .ok (.bipush 48, 2) := by decide +kernel
theorem dX8_gainBy_103 : decode cX8_gainBy 103 = .ok (.if_icmp .ge 21, 3) := by decide +kernel
theorem dX8_gainBy_106 : decode cX8_gainBy 106 = .ok (.aload_n 0, 1) := by decide +kernel
theorem dX8_gainBy_107 : decode cX8_gainBy 107 = .ok (.getfield 23, 3) := by decide +kernel
theorem dX8_gainBy_110 : decode cX8_gainBy 110 = .ok (.iload_n 3, 1) := by decide +kernel
theorem dX8_gainBy_111 : decode cX8_gainBy 111 = .ok (.aload_n 0, 1) := by decide +kernel
theorem dX8_gainBy_112 : decode cX8_gainBy 112 = .ok (.getfield 32, 3) := by decide +kernel
theorem dX8_gainBy_115 : decode cX8_gainBy 115 = .ok (.iload_n 3, 1) := by decide +kernel
theorem dX8_gainBy_116 : decode cX8_gainBy 116 = .ok (.iaload, 1) := by decide +kernel
theorem dX8_gainBy_117 : decode cX8_gainBy 117 = .ok (.iastore, 1) := by decide +kernel
theorem dX8_gainBy_118 : decode cX8_gainBy 118 = .ok (.iinc 3 1, 3) := by decide +kernel
theorem dX8_gainBy_121 : decode cX8_gainBy 121 = .ok (.goto (-21), 3) := by decide +kernel
theorem dX8_gainBy_124 : decode cX8_gainBy 124 = .ok (.aload_n 0, 1) := by decide +kernel
theorem dX8_gainBy_125 : decode cX8_gainBy 125 = .ok (.getfield 261, 3) := by decide +kernel
theorem dX8_gainBy_128 : decode cX8_gainBy 128 = .ok (.ireturn, 1) := by decide +kernel
set_option maxRecDepth 20000 in
theorem ggX8_drawn_X8_gainBy : GoodIn wsX8_drawn wsX8_gainBy := goodIn_r _ [5, 6, 7, 8, 9, 10, 11, 12, 13, 4, 14, 15, 16, 17, 18, 19, 20, 21, 22, 23, 24, 25, 26, 27, 28, 29, 30, 31, 32, 33, 34, 35, 36, 37, 38, 39, 40, 41, 42, 43, 44, 45, 46, 47, 48, 49, 50, 51, 52, 53, 54, 55, 56, 57, 58, 59, 60, 61, 62, 63, 64, 65, 66, 67, 68, 69, 70, 71, 72, 73, 74, 75, 76, 77, 78, 79, 80, 81, 82, 83, 84, 85, 86, 87, 88, 89, 90, 91, 92, 93, 94, 95, 96, 97, 98, 99, 100, 101, 102, 103, 104, 105, 106, 107, 108, 109, 110, 111, 112, 113, 114, 115, 116, 117, 118, 119, 120, 121, 122, 123, 124, 125, 126, 127, 128, 129, 130, 131, 132, 133, 134, 135, 136, 137, 138, 139, 140, 141, 142, 143, 144, 145, 146, 147, 148, 149, 150, 151, 152, 153, 154, 155, 156, 157, 158, 159, 160, 161, 162, 163, 164, 165, 166, 167, 168, 169, 170, 171, 172, 173, 174, 175, 176, 177, 178, 179, 180, 181, 182, 183, 184, 185, 186, 187, 188, 189, 190, 191, 192, 193, 194, 195, 196, 197, 198, 199, 200] rfl (by decide +kernel)
set_option maxRecDepth 20000 in
theorem gX8_drawn_X8_gainBy : GoodIn wsX8_drawn (wsV RX8 332 RX8 yX8_gainBy wsX8_gainBy) := goodIn_app (goodIn_of _ (by decide +kernel)) ggX8_drawn_X8_gainBy
theorem dX8_drawn_0 : decode cX8_drawn 0 = .ok (.aload_n 0, 1) := by decide +kernel
theorem dX8_drawn_1 : decode cX8_drawn 1 = .ok (.iload_n 1, 1) := by decide +kernel
theorem dX8_drawn_2 : decode cX8_drawn 2 = .ok (.invokevirtual 332, 3) := by decide +kernel
theorem dX8_drawn_5 : decode cX8_drawn 5 = .ok (.ireturn, 1) := by decide +kernel
set_option maxRecDepth 20000 in
theorem ggX8_chance_X8_in : GoodIn wsX8_chance wsX8_in := goodIn_r _ [7] rfl (by decide +kernel)
set_option maxRecDepth 20000 in
theorem gX8_chance_X8_in : GoodIn wsX8_chance (va_wsS RX8 67 yX8_in wsX8_in) := goodIn_app (goodIn_of _ (by decide +kernel)) ggX8_chance_X8_in
set_option maxRecDepth 20000 in
theorem ggX8_chance_X8_gainBy : GoodIn wsX8_chance wsX8_gainBy := goodIn_r _ [11, 12, 13, 14, 15, 16, 17, 18, 19, 6, 20, 21, 22, 23, 24, 25, 26, 27, 28, 29, 30, 31, 32, 33, 34, 35, 36, 37, 38, 39, 40, 41, 42, 43, 44, 45, 46, 47, 48, 49, 50, 51, 52, 53, 54, 55, 56, 57, 58, 59, 60, 61, 62, 63, 64, 65, 66, 67, 68, 69, 70, 71, 72, 73, 74, 75, 76, 77, 78, 79, 80, 81, 82, 83, 84, 85, 86, 87, 88, 89, 90, 91, 92, 93, 4, 5, 7, 94, 95, 96, 97, 98, 99, 100, 101, 102, 103, 104, 105, 106, 107, 108, 109, 110, 111, 112, 113, 114, 115, 116, 117, 118, 119, 120, 121, 122, 123, 124, 125, 126, 127, 128, 129, 130, 131, 132, 133, 134, 135, 136, 137, 138, 139, 140, 141, 142, 143, 144, 145, 146, 147, 148, 149, 150, 151, 152, 153, 154, 155, 156, 157, 158, 159, 160, 161, 162, 163, 164, 165, 166, 167, 168, 169, 170, 171, 172, 173, 174, 175, 176, 177, 178, 179, 180, 181, 182, 183, 184, 185, 186, 187, 188, 189, 190, 191, 192, 193, 194, 195, 196, 197, 198, 199, 200, 201, 202, 203] rfl (by decide +kernel)
set_option maxRecDepth 20000 in
theorem gX8_chance_X8_gainBy : GoodIn wsX8_chance (wsV RX8 332 RX8 yX8_gainBy wsX8_gainBy) := goodIn_app (goodIn_of _ (by decide +kernel)) ggX8_chance_X8_gainBy
theorem dX8_chance_0 : decode cX8_chance 0 = .ok (.iload_n 2, 1) := by decide +kernel
theorem dX8_chance_1 : decode cX8_chance 1 = .ok (.i2l, 1) := by decide +kernel
theorem dX8_chance_2 : decode cX8_chance 2 = .ok (.lconst 1, 1) := by decide +kernel
theorem dX8_chance_3 : decode cX8_chance 3 = .ok (.ldc2_w 335, 3) := by decide +kernel
theorem dX8_chance_6 : decode cX8_chance 6 = .ok (.invokestatic 67, 3) := by decide +kernel
theorem dX8_chance_9 : decode cX8_chance 9 = .ok (.ifCond .eq 26, 3) := by decide +kernel
theorem dX8_chance_12 : decode cX8_chance 12 = .ok (.iload_n 3, 1) := by decide +kernel
theorem dX8_chance_13 : decode cX8_chance 13 = .ok (.i2l, 1) := by decide +kernel
theorem dX8_chance_14 : decode cX8_chance 14 = .ok (.lconst 0, 1) := by decide +kernel
theorem dX8_chance_15 : decode cX8_chance 15 = .ok (.ldc2_w 337, 3) := by decide +kernel
theorem dX8_chance_18 : decode cX8_chance 18 = .ok (.invokestatic 67, 3) := by decide +kernel
theorem dX8_chance_21 : decode cX8_chance 21 = .ok (.ifCond .eq 14, 3) := by decide +kernel
theorem dX8_chance_24 : decode cX8_chance 24 = .ok (.iload 4, 2) := by decide +kernel
theorem dX8_chance_26 : decode cX8_chance 26 = .ok (.i2l, 1) := by decide +kernel
theorem dX8_chance_27 : decode cX8_chance 27 = .ok (.lconst 0, 1) := by decide +kernel
theorem dX8_chance_28 : decode cX8_chance 28 = .ok (.lconst 1, 1) := by decide +kernel
theorem dX8_chance_29 : decode cX8_chance 29 = .ok (.invokestatic 67, 3) := by decide +kernel
theorem dX8_chance_32 : decode cX8_chance 32 = .ok (.ifCond .ne 7, 3) := by decide +kernel
theorem dX8_chance_35 : decode cX8_chance 35 = .ok (.ldc2_w 339, 3) := by decide +kernel
theorem dX8_chance_38 : decode cX8_chance 38 = .ok (.lreturn, 1) := by decide +kernel
theorem dX8_chance_39 : decode cX8_chance 39 = .ok (.lconst 0, 1) := by decide +kernel
theorem dX8_chance_40 : decode cX8_chance 40 = .ok (.lstore 5, 2) := by decide +kernel
theorem dX8_chance_42 : decode cX8_chance 42 = .ok (.iconst 0, 1) := by decide +kernel
theorem dX8_chance_43 : decode cX8_chance 43 = .ok (.istore 7, 2) := by decide +kernel
theorem dX8_chance_45 : decode cX8_chance 45 = .ok (.iload 7, 2) := by decide +kernel
theorem dX8_chance_47 : decode cX8_chance 47 = .ok (.iload_n 2, 1) := by decide +kernel
theorem dX8_chance_48 : decode cX8_chance 48 = .ok (.if_icmp .ge 31, 3) := by decide +kernel
theorem dX8_chance_51 : decode cX8_chance 51 = .ok (.lload 5, 2) := by decide +kernel
theorem dX8_chance_53 : decode cX8_chance 53 = .ok (.aload_n 0, 1) := by decide +kernel
theorem dX8_chance_54 : decode cX8_chance 54 = .ok (.iload_n 1, 1) := by decide +kernel
theorem dX8_chance_55 : decode cX8_chance 55 = .ok (.iload 7, 2) := by decide +kernel
theorem dX8_chance_57 : decode cX8_chance 57 = .ok (.iadd, 1) := by decide +kernel
theorem dX8_chance_58 : decode cX8_chance 58 = .ok (.invokevirtual 332, 3) := by decide +kernel
theorem dX8_chance_61 : decode cX8_chance 61 = .ok (.iload_n 3, 1) := by decide +kernel
theorem dX8_chance_62 : decode cX8_chance 62 = .ok (.if_icmp .lt 7, 3) := by decide +kernel
theorem dX8_chance_65 : decode cX8_chance 65 = .ok (.lconst 1, 1) := by decide +kernel
theorem dX8_chance_66 : decode cX8_chance 66 = .ok (.goto 4, 3) := by decide +kernel
theorem dX8_chance_69 : decode cX8_chance 69 = .ok (.lconst 0, 1) := by decide +kernel
theorem dX8_chance_70 : decode cX8_chance 70 = .ok (.ladd, 1) := by decide +kernel
theorem dX8_chance_71 : decode cX8_chance 71 = .ok (.lstore 5, 2) := by decide +kernel
theorem dX8_chance_73 : decode cX8_chance 73 = .ok (.iinc 7 1, 3) := by decide +kernel
theorem dX8_chance_76 : decode cX8_chance 76 = .ok (.goto (-31), 3) := by decide +kernel
theorem dX8_chance_79 : decode cX8_chance 79 = .ok (.lload 5, 2) := by decide +kernel
theorem dX8_chance_81 : decode cX8_chance 81 = .ok (.lstore 7, 2) := by decide +kernel
theorem dX8_chance_83 : decode cX8_chance 83 = .ok (.iload_n 2, 1) := by decide +kernel
theorem dX8_chance_84 : decode cX8_chance 84 = .ok (.i2l, 1) := by decide +kernel
theorem dX8_chance_85 : decode cX8_chance 85 = .ok (.lstore 9, 2) := by decide +kernel
theorem dX8_chance_87 : decode cX8_chance 87 = .ok (.lload 9, 2) := by decide +kernel
theorem dX8_chance_89 : decode cX8_chance 89 = .ok (.lconst 0, 1) := by decide +kernel
theorem dX8_chance_90 : decode cX8_chance 90 = .ok (.lcmp, 1) := by decide +kernel
theorem dX8_chance_91 : decode cX8_chance 91 = .ok (.ifCond .eq 21, 3) := by decide +kernel
theorem dX8_chance_94 : decode cX8_chance 94 = .ok (.lload 7, 2) := by decide +kernel
theorem dX8_chance_96 : decode cX8_chance 96 = .ok (.lload 9, 2) := by decide +kernel
theorem dX8_chance_98 : decode cX8_chance 98 = .ok (.lrem, 1) := by decide +kernel
theorem dX8_chance_99 : decode cX8_chance 99 = .ok (.lstore 11, 2) := by decide +kernel
theorem dX8_chance_101 : decode cX8_chance 101 = .ok (.lload 9, 2) := by decide +kernel
theorem dX8_chance_103 : decode cX8_chance 103 = .ok (.lstore 7, 2) := by decide +kernel
theorem dX8_chance_105 : decode cX8_chance 105 = .ok (.lload 11, 2) := by decide +kernel
theorem dX8_chance_107 : decode cX8_chance 107 = .ok (.lstore 9, 2) := by decide +kernel
theorem dX8_chance_109 : decode cX8_chance 109 = .ok (.goto (-22), 3) := by decide +kernel
theorem dX8_chance_112 : decode cX8_chance 112 = .ok (.iload 4, 2) := by decide +kernel
theorem dX8_chance_114 : decode cX8_chance 114 = .ok (.ifCond .ne 11, 3) := by decide +kernel
theorem dX8_chance_117 : decode cX8_chance 117 = .ok (.lload 5, 2) := by decide +kernel
theorem dX8_chance_119 : decode cX8_chance 119 = .ok (.lload 7, 2) := by decide +kernel
theorem dX8_chance_121 : decode cX8_chance 121 = .ok (.ldiv, 1) := by decide +kernel
theorem dX8_chance_122 : decode cX8_chance 122 = .ok (.goto 8, 3) := by decide +kernel
theorem dX8_chance_125 : decode cX8_chance 125 = .ok (.iload_n 2, 1) := by decide +kernel
theorem dX8_chance_126 : decode cX8_chance 126 = .ok (.i2l, 1) := by decide +kernel
theorem dX8_chance_127 : decode cX8_chance 127 = .ok (.lload 7, 2) := by decide +kernel
theorem dX8_chance_129 : decode cX8_chance 129 = .ok (.ldiv, 1) := by decide +kernel
theorem dX8_chance_130 : decode cX8_chance 130 = .ok (.lreturn, 1) := by decide +kernel
theorem dX8_image_0 : decode cX8_image 0 = .ok (.iconst 0, 1) := by decide +kernel
theorem dX8_image_1 : decode cX8_image 1 = .ok (.istore_n 1, 1) := by decide +kernel
theorem dX8_image_2 : decode cX8_image 2 = .ok (.iload_n 1, 1) := by decide +kernel
theorem dX8_image_3 : decode cX8_image 3 = .ok (.bipush 48, 2) := by decide +kernel
theorem dX8_image_5 : decode cX8_image 5 = .ok (.if_icmp .ge 21, 3) := by decide +kernel
theorem dX8_image_8 : decode cX8_image 8 = .ok (.aload_n 0, 1) := by decide +kernel
theorem dX8_image_9 : decode cX8_image 9 = .ok (.getfield 35, 3) := by decide +kernel
theorem dX8_image_12 : decode cX8_image 12 = .ok (.iload_n 1, 1) := by decide +kernel
theorem dX8_image_13 : decode cX8_image 13 = .ok (.aload_n 0, 1) := by decide +kernel
theorem dX8_image_14 : decode cX8_image 14 = .ok (.getfield 23, 3) := by decide +kernel
theorem dX8_image_17 : decode cX8_image 17 = .ok (.iload_n 1, 1) := by decide +kernel
theorem dX8_image_18 : decode cX8_image 18 = .ok (.iaload, 1) := by decide +kernel
theorem dX8_image_19 : decode cX8_image 19 = .ok (.iastore, 1) := by decide +kernel
theorem dX8_image_20 : decode cX8_image 20 = .ok (.iinc 1 1, 3) := by decide +kernel
theorem dX8_image_23 : decode cX8_image 23 = .ok (.goto (-21), 3) := by decide +kernel
theorem dX8_image_26 : decode cX8_image 26 = .ok (.iconst 0, 1) := by decide +kernel
theorem dX8_image_27 : decode cX8_image 27 = .ok (.istore_n 1, 1) := by decide +kernel
theorem dX8_image_28 : decode cX8_image 28 = .ok (.iload_n 1, 1) := by decide +kernel
theorem dX8_image_29 : decode cX8_image 29 = .ok (.bipush 18, 2) := by decide +kernel
theorem dX8_image_31 : decode cX8_image 31 = .ok (.if_icmp .ge 21, 3) := by decide +kernel
theorem dX8_image_34 : decode cX8_image 34 = .ok (.aload_n 0, 1) := by decide +kernel
theorem dX8_image_35 : decode cX8_image 35 = .ok (.getfield 38, 3) := by decide +kernel
theorem dX8_image_38 : decode cX8_image 38 = .ok (.iload_n 1, 1) := by decide +kernel
theorem dX8_image_39 : decode cX8_image 39 = .ok (.aload_n 0, 1) := by decide +kernel
theorem dX8_image_40 : decode cX8_image 40 = .ok (.getfield 29, 3) := by decide +kernel
theorem dX8_image_43 : decode cX8_image 43 = .ok (.iload_n 1, 1) := by decide +kernel
theorem dX8_image_44 : decode cX8_image 44 = .ok (.iaload, 1) := by decide +kernel
theorem dX8_image_45 : decode cX8_image 45 = .ok (.iastore, 1) := by decide +kernel
theorem dX8_image_46 : decode cX8_image 46 = .ok (.iinc 1 1, 3) := by decide +kernel
theorem dX8_image_49 : decode cX8_image 49 = .ok (.goto (-21), 3) := by decide +kernel
theorem dX8_image_52 : decode cX8_image 52 = .ok (.aload_n 0, 1) := by decide +kernel
theorem dX8_image_53 : decode cX8_image 53 = .ok (.aload_n 0, 1) := by decide +kernel
theorem dX8_image_54 : decode cX8_image 54 = .ok (.getfield 64, 3) := by decide +kernel
theorem dX8_image_57 : decode cX8_image 57 = .ok (.putfield 41, 3) := by decide +kernel
theorem dX8_image_60 : decode cX8_image 60 = .ok (.aload_n 0, 1) := by decide +kernel
theorem dX8_image_61 : decode cX8_image 61 = .ok (.aload_n 0, 1) := by decide +kernel
theorem dX8_image_62 : decode cX8_image 62 = .ok (.getfield 97, 3) := by decide +kernel
theorem dX8_image_65 : decode cX8_image 65 = .ok (.putfield 341, 3) := by decide +kernel
theorem dX8_image_68 : decode cX8_image 68 = .ok (.aload_n 0, 1) := by decide +kernel
theorem dX8_image_69 : decode cX8_image 69 = .ok (.aload_n 0, 1) := by decide +kernel
theorem dX8_image_70 : decode cX8_image 70 = .ok (.getfield 103, 3) := by decide +kernel
theorem dX8_image_73 : decode cX8_image 73 = .ok (.putfield 344, 3) := by decide +kernel
theorem dX8_image_76 : decode cX8_image 76 = .ok (.aload_n 0, 1) := by decide +kernel
theorem dX8_image_77 : decode cX8_image 77 = .ok (.getfield 64, 3) := by decide +kernel
theorem dX8_image_80 : decode cX8_image 80 = .ok (.ireturn, 1) := by decide +kernel
theorem dX8_back_0 : decode cX8_back 0 = .ok (.aload_n 0, 1) := by decide +kernel
theorem dX8_back_1 : decode cX8_back 1 = .ok (.getfield 41, 3) := by decide +kernel
theorem dX8_back_4 : decode cX8_back 4 = .ok (.iconst (-1), 1) := by decide +kernel
theorem dX8_back_5 : decode cX8_back 5 = .ok (.if_icmp .ne 6, 3) := by decide +kernel
theorem dX8_back_8 : decode cX8_back 8 = .ok (.bipush (-3), 2) := by decide +kernel
theorem dX8_back_10 : decode cX8_back 10 = .ok (.ireturn, 1) := by decide +kernel
theorem dX8_back_11 : decode cX8_back 11 = .ok (.iconst 0, 1) := by decide +kernel
theorem dX8_back_12 : decode cX8_back 12 = .ok (.istore_n 1, 1) := by decide +kernel
theorem dX8_back_13 : decode cX8_back 13 = .ok (.iload_n 1, 1) := by decide +kernel
theorem dX8_back_14 : decode cX8_back 14 = .ok (.bipush 48, 2) := by decide +kernel
theorem dX8_back_16 : decode cX8_back 16 = .ok (.if_icmp .ge 21, 3) := by decide +kernel
theorem dX8_back_19 : decode cX8_back 19 = .ok (.aload_n 0, 1) := by decide +kernel
theorem dX8_back_20 : decode cX8_back 20 = .ok (.getfield 23, 3) := by decide +kernel
theorem dX8_back_23 : decode cX8_back 23 = .ok (.iload_n 1, 1) := by decide +kernel
theorem dX8_back_24 : decode cX8_back 24 = .ok (.aload_n 0, 1) := by decide +kernel
theorem dX8_back_25 : decode cX8_back 25 = .ok (.getfield 35, 3) := by decide +kernel
theorem dX8_back_28 : decode cX8_back 28 = .ok (.iload_n 1, 1) := by decide +kernel
theorem dX8_back_29 : decode cX8_back 29 = .ok (.iaload, 1) := by decide +kernel
theorem dX8_back_30 : decode cX8_back 30 = .ok (.iastore, 1) := by decide +kernel
theorem dX8_back_31 : decode cX8_back 31 = .ok (.iinc 1 1, 3) := by decide +kernel
theorem dX8_back_34 : decode cX8_back 34 = .ok (.goto (-21), 3) := by decide +kernel
theorem dX8_back_37 : decode cX8_back 37 = .ok (.iconst 0, 1) := by decide +kernel
theorem dX8_back_38 : decode cX8_back 38 = .ok (.istore_n 1, 1) := by decide +kernel
theorem dX8_back_39 : decode cX8_back 39 = .ok (.iload_n 1, 1) := by decide +kernel
theorem dX8_back_40 : decode cX8_back 40 = .ok (.bipush 18, 2) := by decide +kernel
theorem dX8_back_42 : decode cX8_back 42 = .ok (.if_icmp .ge 21, 3) := by decide +kernel
theorem dX8_back_45 : decode cX8_back 45 = .ok (.aload_n 0, 1) := by decide +kernel
theorem dX8_back_46 : decode cX8_back 46 = .ok (.getfield 29, 3) := by decide +kernel
theorem dX8_back_49 : decode cX8_back 49 = .ok (.iload_n 1, 1) := by decide +kernel
theorem dX8_back_50 : decode cX8_back 50 = .ok (.aload_n 0, 1) := by decide +kernel
theorem dX8_back_51 : decode cX8_back 51 = .ok (.getfield 38, 3) := by decide +kernel
theorem dX8_back_54 : decode cX8_back 54 = .ok (.iload_n 1, 1) := by decide +kernel
theorem dX8_back_55 : decode cX8_back 55 = .ok (.iaload, 1) := by decide +kernel
theorem dX8_back_56 : decode cX8_back 56 = .ok (.iastore, 1) := by decide +kernel
theorem dX8_back_57 : decode cX8_back 57 = .ok (.iinc 1 1, 3) := by decide +kernel
theorem dX8_back_60 : decode cX8_back 60 = .ok (.goto (-21), 3) := by decide +kernel
theorem dX8_back_63 : decode cX8_back 63 = .ok (.aload_n 0, 1) := by decide +kernel
theorem dX8_back_64 : decode cX8_back 64 = .ok (.aload_n 0, 1) := by decide +kernel
theorem dX8_back_65 : decode cX8_back 65 = .ok (.getfield 41, 3) := by decide +kernel
theorem dX8_back_68 : decode cX8_back 68 = .ok (.putfield 64, 3) := by decide +kernel
theorem dX8_back_71 : decode cX8_back 71 = .ok (.aload_n 0, 1) := by decide +kernel
theorem dX8_back_72 : decode cX8_back 72 = .ok (.aload_n 0, 1) := by decide +kernel
theorem dX8_back_73 : decode cX8_back 73 = .ok (.getfield 341, 3) := by decide +kernel
theorem dX8_back_76 : decode cX8_back 76 = .ok (.putfield 97, 3) := by decide +kernel
theorem dX8_back_79 : decode cX8_back 79 = .ok (.aload_n 0, 1) := by decide +kernel
theorem dX8_back_80 : decode cX8_back 80 = .ok (.aload_n 0, 1) := by decide +kernel
theorem dX8_back_81 : decode cX8_back 81 = .ok (.getfield 344, 3) := by decide +kernel
theorem dX8_back_84 : decode cX8_back 84 = .ok (.putfield 103, 3) := by decide +kernel
theorem dX8_back_87 : decode cX8_back 87 = .ok (.aload_n 0, 1) := by decide +kernel
theorem dX8_back_88 : decode cX8_back 88 = .ok (.getfield 64, 3) := by decide +kernel
theorem dX8_back_91 : decode cX8_back 91 = .ok (.ireturn, 1) := by decide +kernel
set_option maxRecDepth 20000 in
theorem ggX8_count_X8_in : GoodIn wsX8_count wsX8_in := goodIn_r _ [9] rfl (by decide +kernel)
set_option maxRecDepth 20000 in
theorem gX8_count_X8_in : GoodIn wsX8_count (va_wsS RX8 67 yX8_in wsX8_in) := goodIn_app (goodIn_of _ (by decide +kernel)) ggX8_count_X8_in
set_option maxRecDepth 20000 in
theorem ggX8_count_X8_shakenMany : GoodIn wsX8_count wsX8_shakenMany := goodIn_r _ [13, 5, 14, 20, 21, 22, 23, 24, 25, 26, 27, 28, 29, 30, 31, 32, 33, 34, 35, 36, 37, 38, 39, 40, 41, 42, 43, 44, 45, 46, 47, 48, 49, 50, 51, 52, 53, 54, 55, 56, 57, 58, 59, 60, 61, 62, 63] rfl (by decide +kernel)
set_option maxRecDepth 20000 in
theorem gX8_count_X8_shakenMany : GoodIn wsX8_count (wsV RX8 252 RX8 yX8_shakenMany wsX8_shakenMany) := goodIn_app (goodIn_of _ (by decide +kernel)) ggX8_count_X8_shakenMany
set_option maxRecDepth 20000 in
theorem ggX8_count_X8_wetMany : GoodIn wsX8_count wsX8_wetMany := goodIn_r _ [18, 19, 20, 21, 22, 23, 24, 25, 26, 27, 28, 29, 30, 31, 32, 33, 34, 35, 36, 37, 38, 39, 40, 41, 42, 43, 44, 45, 46, 47, 48, 49, 50, 51, 52, 53, 54, 55, 56, 57, 58, 59, 60, 61, 62, 63] rfl (by decide +kernel)
set_option maxRecDepth 20000 in
theorem gX8_count_X8_wetMany : GoodIn wsX8_count (wsV RX8 318 RX8 yX8_wetMany wsX8_wetMany) := goodIn_app (goodIn_of _ (by decide +kernel)) ggX8_count_X8_wetMany
theorem dX8_count_0 : decode cX8_count 0 = .ok (.iload_n 1, 1) := by decide +kernel
theorem dX8_count_1 : decode cX8_count 1 = .ok (.i2l, 1) := by decide +kernel
theorem dX8_count_2 : decode cX8_count 2 = .ok (.lconst 0, 1) := by decide +kernel
theorem dX8_count_3 : decode cX8_count 3 = .ok (.ldc2_w 106, 3) := by decide +kernel
theorem dX8_count_6 : decode cX8_count 6 = .ok (.invokestatic 67, 3) := by decide +kernel
theorem dX8_count_9 : decode cX8_count 9 = .ok (.ifCond .ne 6, 3) := by decide +kernel
theorem dX8_count_12 : decode cX8_count 12 = .ok (.bipush (-2), 2) := by decide +kernel
theorem dX8_count_14 : decode cX8_count 14 = .ok (.ireturn, 1) := by decide +kernel
theorem dX8_count_15 : decode cX8_count 15 = .ok (.iload_n 1, 1) := by decide +kernel
theorem dX8_count_16 : decode cX8_count 16 = .ok (.iconst 2, 1) := by decide +kernel
theorem dX8_count_17 : decode cX8_count 17 = .ok (.if_icmp .le 32, 3) := by decide +kernel
theorem dX8_count_20 : decode cX8_count 20 = .ok (.iload_n 1, 1) := by decide +kernel
theorem dX8_count_21 : decode cX8_count 21 = .ok (.iconst 3, 1) := by decide +kernel
theorem dX8_count_22 : decode cX8_count 22 = .ok (.if_icmp .ne 10, 3) := by decide +kernel
theorem dX8_count_25 : decode cX8_count 25 = .ok (.aload_n 0, 1) := by decide +kernel
theorem dX8_count_26 : decode cX8_count 26 = .ok (.getfield 61, 3) := by decide +kernel
theorem dX8_count_29 : decode cX8_count 29 = .ok (.goto 19, 3) := by decide +kernel
theorem dX8_count_32 : decode cX8_count 32 = .ok (.iload_n 1, 1) := by decide +kernel
theorem dX8_count_33 : decode cX8_count 33 = .ok (.iconst 4, 1) := by decide +kernel
theorem dX8_count_34 : decode cX8_count 34 = .ok (.if_icmp .ne 10, 3) := by decide +kernel
theorem dX8_count_37 : decode cX8_count 37 = .ok (.aload_n 0, 1) := by decide +kernel
theorem dX8_count_38 : decode cX8_count 38 = .ok (.getfield 112, 3) := by decide +kernel
theorem dX8_count_41 : decode cX8_count 41 = .ok (.goto 7, 3) := by decide +kernel
theorem dX8_count_44 : decode cX8_count 44 = .ok (.aload_n 0, 1) := by decide +kernel
theorem dX8_count_45 : decode cX8_count 45 = .ok (.getfield 103, 3) := by decide +kernel
theorem dX8_count_48 : decode cX8_count 48 = .ok (.ireturn, 1) := by decide +kernel
theorem dX8_count_49 : decode cX8_count 49 = .ok (.iload_n 1, 1) := by decide +kernel
theorem dX8_count_50 : decode cX8_count 50 = .ok (.ifCond .ne 10, 3) := by decide +kernel
theorem dX8_count_53 : decode cX8_count 53 = .ok (.aload_n 0, 1) := by decide +kernel
theorem dX8_count_54 : decode cX8_count 54 = .ok (.getfield 64, 3) := by decide +kernel
theorem dX8_count_57 : decode cX8_count 57 = .ok (.goto 26, 3) := by decide +kernel
theorem dX8_count_60 : decode cX8_count 60 = .ok (.iload_n 1, 1) := by decide +kernel
theorem dX8_count_61 : decode cX8_count 61 = .ok (.iconst 1, 1) := by decide +kernel
theorem dX8_count_62 : decode cX8_count 62 = .ok (.if_icmp .ne 10, 3) := by decide +kernel
theorem dX8_count_65 : decode cX8_count 65 = .ok (.aload_n 0, 1) := by decide +kernel
theorem dX8_count_66 : decode cX8_count 66 = .ok (.invokevirtual 252, 3) := by decide +kernel
theorem dX8_count_69 : decode cX8_count 69 = .ok (.goto 14, 3) := by decide +kernel
theorem dX8_count_72 : decode cX8_count 72 = .ok (.aload_n 0, 1) := by decide +kernel
theorem dX8_count_73 : decode cX8_count 73 = .ok (.iconst 0, 1) := by decide +kernel
theorem dX8_count_74 : decode cX8_count 74 = .ok (.invokevirtual 318, 3) := by decide +kernel
theorem dX8_count_77 : decode cX8_count 77 = .ok (.aload_n 0, 1) := by decide +kernel
theorem dX8_count_78 : decode cX8_count 78 = .ok (.iconst 1, 1) := by decide +kernel
theorem dX8_count_79 : decode cX8_count 79 = .ok (.invokevirtual 318, 3) := by decide +kernel
theorem dX8_count_82 : decode cX8_count 82 = .ok (.iadd, 1) := by decide +kernel
theorem dX8_count_83 : decode cX8_count 83 = .ok (.ireturn, 1) := by decide +kernel
set_option maxRecDepth 20000 in
theorem ggX8_isSheet_X8_in : GoodIn wsX8_isSheet wsX8_in := goodIn_r _ [5] rfl (by decide +kernel)
set_option maxRecDepth 20000 in
theorem gX8_isSheet_X8_in : GoodIn wsX8_isSheet (va_wsS RX8 67 yX8_in wsX8_in) := goodIn_app (goodIn_of _ (by decide +kernel)) ggX8_isSheet_X8_in
theorem dX8_isSheet_0 : decode cX8_isSheet 0 = .ok (.iload_n 0, 1) := by decide +kernel
theorem dX8_isSheet_1 : decode cX8_isSheet 1 = .ok (.i2l, 1) := by decide +kernel
theorem dX8_isSheet_2 : decode cX8_isSheet 2 = .ok (.lconst 0, 1) := by decide +kernel
theorem dX8_isSheet_3 : decode cX8_isSheet 3 = .ok (.ldc2_w 289, 3) := by decide +kernel
theorem dX8_isSheet_6 : decode cX8_isSheet 6 = .ok (.invokestatic 67, 3) := by decide +kernel
theorem dX8_isSheet_9 : decode cX8_isSheet 9 = .ok (.ireturn, 1) := by decide +kernel
set_option maxRecDepth 20000 in
theorem ggX8_sheet_X8_isSheet : GoodIn wsX8_sheet wsX8_isSheet := goodIn_r _ [10, 11, 12, 13, 9, 14] rfl (by decide +kernel)
set_option maxRecDepth 20000 in
theorem gX8_sheet_X8_isSheet : GoodIn wsX8_sheet (va_wsS RX8 286 yX8_isSheet wsX8_isSheet) := goodIn_app (goodIn_of _ (by decide +kernel)) ggX8_sheet_X8_isSheet
set_option maxRecDepth 20000 in
theorem ggX8_sheet_X8_in : GoodIn wsX8_sheet wsX8_in := goodIn_r _ [14] rfl (by decide +kernel)
set_option maxRecDepth 20000 in
theorem gX8_sheet_X8_in : GoodIn wsX8_sheet (va_wsS RX8 67 yX8_in wsX8_in) := goodIn_app (goodIn_of _ (by decide +kernel)) ggX8_sheet_X8_in
theorem dX8_sheet_0 : decode cX8_sheet 0 = .ok (.iload_n 1, 1) := by decide +kernel
theorem dX8_sheet_1 : decode cX8_sheet 1 = .ok (.invokestatic 286, 3) := by decide +kernel
theorem dX8_sheet_4 : decode cX8_sheet 4 = .ok (.ifCond .eq 27, 3) := by decide +kernel
theorem dX8_sheet_7 : decode cX8_sheet 7 = .ok (.iload_n 2, 1) := by decide +kernel
theorem dX8_sheet_8 : decode cX8_sheet 8 = .ok (.i2l, 1) := by decide +kernel
theorem dX8_sheet_9 : decode cX8_sheet 9 = .ok (.ldc2_w 347, 3) := by decide +kernel
theorem dX8_sheet_12 : decode cX8_sheet 12 = .ok (.ldc2_w 349, 3) := by decide +kernel
theorem dX8_sheet_15 : decode cX8_sheet 15 = .ok (.invokestatic 67, 3) := by decide +kernel
theorem dX8_sheet_18 : decode cX8_sheet 18 = .ok (.ifCond .eq 13, 3) := by decide +kernel
theorem dX8_sheet_21 : decode cX8_sheet 21 = .ok (.iload_n 2, 1) := by decide +kernel
theorem dX8_sheet_22 : decode cX8_sheet 22 = .ok (.ifCond .lt 12, 3) := by decide +kernel
theorem dX8_sheet_25 : decode cX8_sheet 25 = .ok (.iload_n 3, 1) := by decide +kernel
theorem dX8_sheet_26 : decode cX8_sheet 26 = .ok (.bipush 40, 2) := by decide +kernel
theorem dX8_sheet_28 : decode cX8_sheet 28 = .ok (.if_icmp .le 6, 3) := by decide +kernel
theorem dX8_sheet_31 : decode cX8_sheet 31 = .ok (.bipush (-2), 2) := by decide +kernel
theorem dX8_sheet_33 : decode cX8_sheet 33 = .ok (.ireturn, 1) := by decide +kernel
theorem dX8_sheet_34 : decode cX8_sheet 34 = .ok (.iload_n 2, 1) := by decide +kernel
theorem dX8_sheet_35 : decode cX8_sheet 35 = .ok (.ifCond .lt 10, 3) := by decide +kernel
theorem dX8_sheet_38 : decode cX8_sheet 38 = .ok (.iload_n 3, 1) := by decide +kernel
theorem dX8_sheet_39 : decode cX8_sheet 39 = .ok (.ifCond .ge 6, 3) := by decide +kernel
theorem dX8_sheet_42 : decode cX8_sheet 42 = .ok (.bipush (-14), 2) := by decide +kernel
theorem dX8_sheet_44 : decode cX8_sheet 44 = .ok (.ireturn, 1) := by decide +kernel
theorem dX8_sheet_45 : decode cX8_sheet 45 = .ok (.aload_n 0, 1) := by decide +kernel
theorem dX8_sheet_46 : decode cX8_sheet 46 = .ok (.getfield 44, 3) := by decide +kernel
theorem dX8_sheet_49 : decode cX8_sheet 49 = .ok (.iload_n 1, 1) := by decide +kernel
theorem dX8_sheet_50 : decode cX8_sheet 50 = .ok (.iload_n 2, 1) := by decide +kernel
theorem dX8_sheet_51 : decode cX8_sheet 51 = .ok (.ifCond .lt 7, 3) := by decide +kernel
theorem dX8_sheet_54 : decode cX8_sheet 54 = .ok (.iconst 1, 1) := by decide +kernel
theorem dX8_sheet_55 : decode cX8_sheet 55 = .ok (.goto 4, 3) := by decide +kernel
theorem dX8_sheet_58 : decode cX8_sheet 58 = .ok (.iconst 0, 1) := by decide +kernel
theorem dX8_sheet_59 : decode cX8_sheet 59 = .ok (.bastore, 1) := by decide +kernel
theorem dX8_sheet_60 : decode cX8_sheet 60 = .ok (.aload_n 0, 1) := by decide +kernel
theorem dX8_sheet_61 : decode cX8_sheet 61 = .ok (.getfield 48, 3) := by decide +kernel
theorem dX8_sheet_64 : decode cX8_sheet 64 = .ok (.iload_n 1, 1) := by decide +kernel
theorem dX8_sheet_65 : decode cX8_sheet 65 = .ok (.iload_n 2, 1) := by decide +kernel
theorem dX8_sheet_66 : decode cX8_sheet 66 = .ok (.iastore, 1) := by decide +kernel
theorem dX8_sheet_67 : decode cX8_sheet 67 = .ok (.aload_n 0, 1) := by decide +kernel
theorem dX8_sheet_68 : decode cX8_sheet 68 = .ok (.getfield 51, 3) := by decide +kernel
theorem dX8_sheet_71 : decode cX8_sheet 71 = .ok (.iload_n 1, 1) := by decide +kernel
theorem dX8_sheet_72 : decode cX8_sheet 72 = .ok (.iload_n 3, 1) := by decide +kernel
theorem dX8_sheet_73 : decode cX8_sheet 73 = .ok (.iastore, 1) := by decide +kernel
theorem dX8_sheet_74 : decode cX8_sheet 74 = .ok (.iconst 0, 1) := by decide +kernel
theorem dX8_sheet_75 : decode cX8_sheet 75 = .ok (.istore 4, 2) := by decide +kernel
theorem dX8_sheet_77 : decode cX8_sheet 77 = .ok (.iload 4, 2) := by decide +kernel
theorem dX8_sheet_79 : decode cX8_sheet 79 = .ok (.iload_n 3, 1) := by decide +kernel
theorem dX8_sheet_80 : decode cX8_sheet 80 = .ok (.if_icmp .ge 26, 3) := by decide +kernel
theorem dX8_sheet_83 : decode cX8_sheet 83 = .ok (.iload_n 2, 1) := by decide +kernel
theorem dX8_sheet_84 : decode cX8_sheet 84 = .ok (.ifCond .lt 22, 3) := by decide +kernel
theorem dX8_sheet_87 : decode cX8_sheet 87 = .ok (.aload_n 0, 1) := by decide +kernel
theorem dX8_sheet_88 : decode cX8_sheet 88 = .ok (.getfield 54, 3) := by decide +kernel
theorem dX8_sheet_91 : decode cX8_sheet 91 = .ok (.bipush 40, 2) := by decide +kernel
theorem dX8_sheet_93 : decode cX8_sheet 93 = .ok (.iload_n 1, 1) := by decide +kernel
theorem dX8_sheet_94 : decode cX8_sheet 94 = .ok (.imul, 1) := by decide +kernel
theorem dX8_sheet_95 : decode cX8_sheet 95 = .ok (.iload 4, 2) := by decide +kernel
theorem dX8_sheet_97 : decode cX8_sheet 97 = .ok (.iadd, 1) := by decide +kernel
theorem dX8_sheet_98 : decode cX8_sheet 98 = .ok (.iconst 0, 1) := by decide +kernel
theorem dX8_sheet_99 : decode cX8_sheet 99 = .ok (.iastore, 1) := by decide +kernel
theorem dX8_sheet_100 : decode cX8_sheet 100 = .ok (.iinc 4 1, 3) := by decide +kernel
theorem dX8_sheet_103 : decode cX8_sheet 103 = .ok (.goto (-26), 3) := by decide +kernel
theorem dX8_sheet_106 : decode cX8_sheet 106 = .ok (.iconst 1, 1) := by decide +kernel
theorem dX8_sheet_107 : decode cX8_sheet 107 = .ok (.ireturn, 1) := by decide +kernel
set_option maxRecDepth 20000 in
theorem ggX8_cell_X8_isSheet : GoodIn wsX8_cell wsX8_isSheet := goodIn_r _ [8, 9, 10, 11, 7, 12] rfl (by decide +kernel)
set_option maxRecDepth 20000 in
theorem gX8_cell_X8_isSheet : GoodIn wsX8_cell (va_wsS RX8 286 yX8_isSheet wsX8_isSheet) := goodIn_app (goodIn_of _ (by decide +kernel)) ggX8_cell_X8_isSheet
set_option maxRecDepth 20000 in
theorem ggX8_cell_X8_in : GoodIn wsX8_cell wsX8_in := goodIn_r _ [12] rfl (by decide +kernel)
set_option maxRecDepth 20000 in
theorem gX8_cell_X8_in : GoodIn wsX8_cell (va_wsS RX8 67 yX8_in wsX8_in) := goodIn_app (goodIn_of _ (by decide +kernel)) ggX8_cell_X8_in
theorem dX8_cell_0 : decode cX8_cell 0 = .ok (.iload_n 1, 1) := by decide +kernel
theorem dX8_cell_1 : decode cX8_cell 1 = .ok (.invokestatic 286, 3) := by decide +kernel
theorem dX8_cell_4 : decode cX8_cell 4 = .ok (.ifCond .ne 6, 3) := by decide +kernel
theorem dX8_cell_7 : decode cX8_cell 7 = .ok (.bipush (-2), 2) := by decide +kernel
theorem dX8_cell_9 : decode cX8_cell 9 = .ok (.ireturn, 1) := by decide +kernel
theorem dX8_cell_10 : decode cX8_cell 10 = .ok (.aload_n 0, 1) := by decide +kernel
theorem dX8_cell_11 : decode cX8_cell 11 = .ok (.getfield 44, 3) := by decide +kernel
theorem dX8_cell_14 : decode cX8_cell 14 = .ok (.iload_n 1, 1) := by decide +kernel
theorem dX8_cell_15 : decode cX8_cell 15 = .ok (.baload, 1) := by decide +kernel
theorem dX8_cell_16 : decode cX8_cell 16 = .ok (.ifCond .ne 6, 3) := by decide +kernel
theorem dX8_cell_19 : decode cX8_cell 19 = .ok (.bipush (-11), 2) := by decide +kernel
theorem dX8_cell_21 : decode cX8_cell 21 = .ok (.ireturn, 1) := by decide +kernel
theorem dX8_cell_22 : decode cX8_cell 22 = .ok (.iload_n 2, 1) := by decide +kernel
theorem dX8_cell_23 : decode cX8_cell 23 = .ok (.i2l, 1) := by decide +kernel
theorem dX8_cell_24 : decode cX8_cell 24 = .ok (.lconst 0, 1) := by decide +kernel
theorem dX8_cell_25 : decode cX8_cell 25 = .ok (.aload_n 0, 1) := by decide +kernel
theorem dX8_cell_26 : decode cX8_cell 26 = .ok (.getfield 51, 3) := by decide +kernel
theorem dX8_cell_29 : decode cX8_cell 29 = .ok (.iload_n 1, 1) := by decide +kernel
theorem dX8_cell_30 : decode cX8_cell 30 = .ok (.iaload, 1) := by decide +kernel
theorem dX8_cell_31 : decode cX8_cell 31 = .ok (.iconst 1, 1) := by decide +kernel
theorem dX8_cell_32 : decode cX8_cell 32 = .ok (.isub, 1) := by decide +kernel
theorem dX8_cell_33 : decode cX8_cell 33 = .ok (.i2l, 1) := by decide +kernel
theorem dX8_cell_34 : decode cX8_cell 34 = .ok (.invokestatic 67, 3) := by decide +kernel
theorem dX8_cell_37 : decode cX8_cell 37 = .ok (.ifCond .ne 6, 3) := by decide +kernel
theorem dX8_cell_40 : decode cX8_cell 40 = .ok (.bipush (-12), 2) := by decide +kernel
theorem dX8_cell_42 : decode cX8_cell 42 = .ok (.ireturn, 1) := by decide +kernel
theorem dX8_cell_43 : decode cX8_cell 43 = .ok (.aload_n 0, 1) := by decide +kernel
theorem dX8_cell_44 : decode cX8_cell 44 = .ok (.getfield 54, 3) := by decide +kernel
theorem dX8_cell_47 : decode cX8_cell 47 = .ok (.bipush 40, 2) := by decide +kernel
theorem dX8_cell_49 : decode cX8_cell 49 = .ok (.iload_n 1, 1) := by decide +kernel
theorem dX8_cell_50 : decode cX8_cell 50 = .ok (.imul, 1) := by decide +kernel
theorem dX8_cell_51 : decode cX8_cell 51 = .ok (.iload_n 2, 1) := by decide +kernel
theorem dX8_cell_52 : decode cX8_cell 52 = .ok (.iadd, 1) := by decide +kernel
theorem dX8_cell_53 : decode cX8_cell 53 = .ok (.aload_n 0, 1) := by decide +kernel
theorem dX8_cell_54 : decode cX8_cell 54 = .ok (.getfield 48, 3) := by decide +kernel
theorem dX8_cell_57 : decode cX8_cell 57 = .ok (.iload_n 1, 1) := by decide +kernel
theorem dX8_cell_58 : decode cX8_cell 58 = .ok (.iaload, 1) := by decide +kernel
theorem dX8_cell_59 : decode cX8_cell 59 = .ok (.ifCond .ne 8, 3) := by decide +kernel
theorem dX8_cell_62 : decode cX8_cell 62 = .ok (.iload_n 3, 1) := by decide +kernel
theorem dX8_cell_63 : decode cX8_cell 63 = .ok (.i2b, 1) := by decide +kernel
theorem dX8_cell_64 : decode cX8_cell 64 = .ok (.goto 19, 3) := by decide +kernel
theorem dX8_cell_67 : decode cX8_cell 67 = .ok (.aload_n 0, 1) := by decide +kernel
theorem dX8_cell_68 : decode cX8_cell 68 = .ok (.getfield 48, 3) := by decide +kernel
theorem dX8_cell_71 : decode cX8_cell 71 = .ok (.iload_n 1, 1) := by decide +kernel
theorem dX8_cell_72 : decode cX8_cell 72 = .ok (.iaload, 1) := by decide +kernel
theorem dX8_cell_73 : decode cX8_cell 73 = .ok (.iconst 1, 1) := by decide +kernel
theorem dX8_cell_74 : decode cX8_cell 74 = .ok (.if_icmp .ne 8, 3) := by decide +kernel
theorem dX8_cell_77 : decode cX8_cell 77 = .ok (.iload_n 3, 1) := by decide +kernel
theorem dX8_cell_78 : decode cX8_cell 78 = .ok (.i2s, 1) := by decide +kernel
theorem dX8_cell_79 : decode cX8_cell 79 = .ok (.goto 4, 3) := by decide +kernel
theorem dX8_cell_82 : decode cX8_cell 82 = .ok (.iload_n 3, 1) := by decide +kernel
theorem dX8_cell_83 : decode cX8_cell 83 = .ok (.iastore, 1) := by decide +kernel
theorem dX8_cell_84 : decode cX8_cell 84 = .ok (.iconst 1, 1) := by decide +kernel
theorem dX8_cell_85 : decode cX8_cell 85 = .ok (.ireturn, 1) := by decide +kernel
set_option maxRecDepth 20000 in
theorem ggX8_copy_X8_isSheet : GoodIn wsX8_copy wsX8_isSheet := goodIn_r _ [8, 9, 10, 11, 7, 12] rfl (by decide +kernel)
set_option maxRecDepth 20000 in
theorem gX8_copy_X8_isSheet : GoodIn wsX8_copy (va_wsS RX8 286 yX8_isSheet wsX8_isSheet) := goodIn_app (goodIn_of _ (by decide +kernel)) ggX8_copy_X8_isSheet
theorem dX8_copy_0 : decode cX8_copy 0 = .ok (.iload_n 1, 1) := by decide +kernel
theorem dX8_copy_1 : decode cX8_copy 1 = .ok (.invokestatic 286, 3) := by decide +kernel
theorem dX8_copy_4 : decode cX8_copy 4 = .ok (.ifCond .eq 10, 3) := by decide +kernel
theorem dX8_copy_7 : decode cX8_copy 7 = .ok (.iload_n 3, 1) := by decide +kernel
theorem dX8_copy_8 : decode cX8_copy 8 = .ok (.invokestatic 286, 3) := by decide +kernel
theorem dX8_copy_11 : decode cX8_copy 11 = .ok (.ifCond .ne 6, 3) := by decide +kernel
theorem dX8_copy_14 : decode cX8_copy 14 = .ok (.bipush (-2), 2) := by decide +kernel
theorem dX8_copy_16 : decode cX8_copy 16 = .ok (.ireturn, 1) := by decide +kernel
theorem dX8_copy_17 : decode cX8_copy 17 = .ok (.aload_n 0, 1) := by decide +kernel
theorem dX8_copy_18 : decode cX8_copy 18 = .ok (.getfield 44, 3) := by decide +kernel
theorem dX8_copy_21 : decode cX8_copy 21 = .ok (.iload_n 1, 1) := by decide +kernel
theorem dX8_copy_22 : decode cX8_copy 22 = .ok (.baload, 1) := by decide +kernel
theorem dX8_copy_23 : decode cX8_copy 23 = .ok (.ifCond .eq 12, 3) := by decide +kernel
theorem dX8_copy_26 : decode cX8_copy 26 = .ok (.aload_n 0, 1) := by decide +kernel
theorem dX8_copy_27 : decode cX8_copy 27 = .ok (.getfield 44, 3) := by decide +kernel
theorem dX8_copy_30 : decode cX8_copy 30 = .ok (.iload_n 3, 1) := by decide +kernel
theorem dX8_copy_31 : decode cX8_copy 31 = .ok (.baload, 1) := by decide +kernel
theorem dX8_copy_32 : decode cX8_copy 32 = .ok (.ifCond .ne 6, 3) := by decide +kernel
theorem dX8_copy_35 : decode cX8_copy 35 = .ok (.bipush (-11), 2) := by decide +kernel
theorem dX8_copy_37 : decode cX8_copy 37 = .ok (.ireturn, 1) := by decide +kernel
theorem dX8_copy_38 : decode cX8_copy 38 = .ok (.aload_n 0, 1) := by decide +kernel
theorem dX8_copy_39 : decode cX8_copy 39 = .ok (.getfield 48, 3) := by decide +kernel
theorem dX8_copy_42 : decode cX8_copy 42 = .ok (.iload_n 1, 1) := by decide +kernel
theorem dX8_copy_43 : decode cX8_copy 43 = .ok (.iaload, 1) := by decide +kernel
theorem dX8_copy_44 : decode cX8_copy 44 = .ok (.aload_n 0, 1) := by decide +kernel
theorem dX8_copy_45 : decode cX8_copy 45 = .ok (.getfield 48, 3) := by decide +kernel
theorem dX8_copy_48 : decode cX8_copy 48 = .ok (.iload_n 3, 1) := by decide +kernel
theorem dX8_copy_49 : decode cX8_copy 49 = .ok (.iaload, 1) := by decide +kernel
theorem dX8_copy_50 : decode cX8_copy 50 = .ok (.if_icmp .eq 6, 3) := by decide +kernel
theorem dX8_copy_53 : decode cX8_copy 53 = .ok (.bipush (-13), 2) := by decide +kernel
theorem dX8_copy_55 : decode cX8_copy 55 = .ok (.ireturn, 1) := by decide +kernel
theorem dX8_copy_56 : decode cX8_copy 56 = .ok (.iload 5, 2) := by decide +kernel
theorem dX8_copy_58 : decode cX8_copy 58 = .ok (.ifCond .lt 39, 3) := by decide +kernel
theorem dX8_copy_61 : decode cX8_copy 61 = .ok (.iload_n 2, 1) := by decide +kernel
