theorem dX8_both_28 : decode cX8_both 28 = .ok (.invokevirtual 210, 3) := by decide +kernel
theorem dX8_both_31 : decode cX8_both 31 = .ok (.istore_n 2, 1) := by decide +kernel
theorem dX8_both_32 : decode cX8_both 32 = .ok (.iload_n 1, 1) := by decide +kernel
theorem dX8_both_33 : decode cX8_both 33 = .ok (.ifCond .eq 11, 3) := by decide +kernel
theorem dX8_both_36 : decode cX8_both 36 = .ok (.iload_n 2, 1) := by decide +kernel
theorem dX8_both_37 : decode cX8_both 37 = .ok (.ifCond .eq 7, 3) := by decide +kernel
theorem dX8_both_40 : decode cX8_both 40 = .ok (.iconst 1, 1) := by decide +kernel
theorem dX8_both_41 : decode cX8_both 41 = .ok (.goto 4, 3) := by decide +kernel
theorem dX8_both_44 : decode cX8_both 44 = .ok (.iconst 0, 1) := by decide +kernel
theorem dX8_both_45 : decode cX8_both 45 = .ok (.istore_n 1, 1) := by decide +kernel
theorem dX8_both_46 : decode cX8_both 46 = .ok (.goto (-41), 3) := by decide +kernel
theorem dX8_both_49 : decode cX8_both 49 = .ok (.iload_n 1, 1) := by decide +kernel
theorem dX8_both_50 : decode cX8_both 50 = .ok (.ireturn, 1) := by decide +kernel
set_option maxRecDepth 20000 in
theorem ggX8_either_X8_both : GoodIn wsX8_either wsX8_both := goodIn_r _ [73, 74, 75, 76, 4, 5, 6, 7, 8, 9, 10, 11, 12, 13, 14, 15, 16, 17, 18, 19, 20, 21, 22, 23, 24, 25, 26, 27, 28, 29, 30, 31, 32, 33, 34, 35, 36, 37, 38, 39, 40, 41, 42, 43, 44, 45, 46, 47, 48, 49, 50, 51, 52, 53, 54, 55, 56, 57, 58, 59, 60, 61, 62, 63, 64, 65, 66, 67, 68, 69, 70, 71, 72, 0, 1, 2, 3, 77, 78, 79, 80, 81, 82, 83, 84, 85, 86, 87, 88, 89, 90, 91, 92, 93, 94, 95, 96, 97, 98, 99, 100, 101, 102, 103, 104, 105, 106, 107, 108, 109, 110, 111, 112, 113, 114, 115, 116, 117, 118, 119, 120, 121, 122, 123, 124, 125, 126] rfl (by decide +kernel)
set_option maxRecDepth 20000 in
theorem gX8_either_X8_both : GoodIn wsX8_either (wsV RX8 218 RX8 yX8_both wsX8_both) := goodIn_app (goodIn_of _ (by decide +kernel)) ggX8_either_X8_both
set_option maxRecDepth 20000 in
theorem ggX8_either_X8_isWord : GoodIn wsX8_either wsX8_isWord := goodIn_r _ [8, 9, 10, 11, 12, 13, 14, 15, 4, 16, 17, 18, 19, 20, 21, 22, 23, 83, 84, 85, 86, 87, 88, 89, 90, 91, 92, 93, 94, 95, 96, 97, 98, 99, 100, 101, 102, 103, 104, 105, 106, 107, 108, 109, 110, 111, 112, 113, 114, 115, 116, 117, 118, 119, 120, 121, 122, 123, 124, 125, 126] rfl (by decide +kernel)
set_option maxRecDepth 20000 in
theorem gX8_either_X8_isWord : GoodIn wsX8_either (wsV RX8 166 RX8 yX8_isWord wsX8_isWord) := goodIn_app (goodIn_of _ (by decide +kernel)) ggX8_either_X8_isWord
set_option maxRecDepth 20000 in
theorem ggX8_either_X8_next : GoodIn wsX8_either wsX8_next := goodIn_r _ [27, 11, 12, 10, 21, 28, 29, 30, 31, 32, 33, 17, 18, 19, 4, 20, 22, 23, 34, 35, 36, 83, 84, 85, 86, 87, 88, 89, 90, 91, 92, 93, 94, 95, 96, 97, 98, 99, 100, 101, 102, 103, 104, 105, 106, 107, 108, 109, 110, 111, 112, 113, 114, 115, 116, 117, 118, 119, 120, 121, 122, 123, 124, 125, 126] rfl (by decide +kernel)
set_option maxRecDepth 20000 in
theorem gX8_either_X8_next : GoodIn wsX8_either (wsV RX8 163 RX8 yX8_next wsX8_next) := goodIn_app (goodIn_of _ (by decide +kernel)) ggX8_either_X8_next
theorem dX8_either_0 : decode cX8_either 0 = .ok (.aload_n 0, 1) := by decide +kernel
theorem dX8_either_1 : decode cX8_either 1 = .ok (.invokevirtual 218, 3) := by decide +kernel
theorem dX8_either_4 : decode cX8_either 4 = .ok (.istore_n 1, 1) := by decide +kernel
theorem dX8_either_5 : decode cX8_either 5 = .ok (.aload_n 0, 1) := by decide +kernel
theorem dX8_either_6 : decode cX8_either 6 = .ok (.bipush 111, 2) := by decide +kernel
theorem dX8_either_8 : decode cX8_either 8 = .ok (.bipush 114, 2) := by decide +kernel
theorem dX8_either_10 : decode cX8_either 10 = .ok (.iconst 0, 1) := by decide +kernel
theorem dX8_either_11 : decode cX8_either 11 = .ok (.iconst 0, 1) := by decide +kernel
theorem dX8_either_12 : decode cX8_either 12 = .ok (.iconst 0, 1) := by decide +kernel
theorem dX8_either_13 : decode cX8_either 13 = .ok (.iconst 0, 1) := by decide +kernel
theorem dX8_either_14 : decode cX8_either 14 = .ok (.iconst 0, 1) := by decide +kernel
theorem dX8_either_15 : decode cX8_either 15 = .ok (.iconst 0, 1) := by decide +kernel
theorem dX8_either_16 : decode cX8_either 16 = .ok (.invokevirtual 166, 3) := by decide +kernel
theorem dX8_either_19 : decode cX8_either 19 = .ok (.ifCond .eq 29, 3) := by decide +kernel
theorem dX8_either_22 : decode cX8_either 22 = .ok (.aload_n 0, 1) := by decide +kernel
theorem dX8_either_23 : decode cX8_either 23 = .ok (.invokevirtual 163, 3) := by decide +kernel
theorem dX8_either_26 : decode cX8_either 26 = .ok (.aload_n 0, 1) := by decide +kernel
theorem dX8_either_27 : decode cX8_either 27 = .ok (.invokevirtual 218, 3) := by decide +kernel
theorem dX8_either_30 : decode cX8_either 30 = .ok (.istore_n 2, 1) := by decide +kernel
theorem dX8_either_31 : decode cX8_either 31 = .ok (.iload_n 1, 1) := by decide +kernel
theorem dX8_either_32 : decode cX8_either 32 = .ok (.ifCond .ne 7, 3) := by decide +kernel
theorem dX8_either_35 : decode cX8_either 35 = .ok (.iload_n 2, 1) := by decide +kernel
theorem dX8_either_36 : decode cX8_either 36 = .ok (.ifCond .eq 7, 3) := by decide +kernel
theorem dX8_either_39 : decode cX8_either 39 = .ok (.iconst 1, 1) := by decide +kernel
theorem dX8_either_40 : decode cX8_either 40 = .ok (.goto 4, 3) := by decide +kernel
theorem dX8_either_43 : decode cX8_either 43 = .ok (.iconst 0, 1) := by decide +kernel
theorem dX8_either_44 : decode cX8_either 44 = .ok (.istore_n 1, 1) := by decide +kernel
theorem dX8_either_45 : decode cX8_either 45 = .ok (.goto (-40), 3) := by decide +kernel
theorem dX8_either_48 : decode cX8_either 48 = .ok (.iload_n 1, 1) := by decide +kernel
theorem dX8_either_49 : decode cX8_either 49 = .ok (.ireturn, 1) := by decide +kernel
set_option maxRecDepth 20000 in
theorem ggX8_part_X8_fail : GoodIn wsX8_part wsX8_fail := goodIn_r _ [6, 1, 7, 8, 84, 85, 86, 87, 88, 89, 90, 91, 92, 93, 94, 95, 96, 97, 98, 99, 100, 101, 102, 103, 104, 105, 106, 107, 108, 109, 110, 111, 112, 113, 114, 115, 116, 117, 118, 119, 120, 121, 122, 123, 124, 125, 126, 127] rfl (by decide +kernel)
set_option maxRecDepth 20000 in
theorem gX8_part_X8_fail : GoodIn wsX8_part (wsV RX8 160 RX8 yX8_fail wsX8_fail) := goodIn_app (goodIn_of _ (by decide +kernel)) ggX8_part_X8_fail
set_option maxRecDepth 20000 in
theorem ggX8_part_X8_next : GoodIn wsX8_part wsX8_next := goodIn_r _ [12, 13, 7, 14, 15, 16, 17, 18, 19, 20, 21, 22, 23, 24, 5, 25, 26, 27, 28, 29, 30, 84, 85, 86, 87, 88, 89, 90, 91, 92, 93, 94, 95, 96, 97, 98, 99, 100, 101, 102, 103, 104, 105, 106, 107, 108, 109, 110, 111, 112, 113, 114, 115, 116, 117, 118, 119, 120, 121, 122, 123, 124, 125, 126, 127] rfl (by decide +kernel)
set_option maxRecDepth 20000 in
theorem gX8_part_X8_next : GoodIn wsX8_part (wsV RX8 163 RX8 yX8_next wsX8_next) := goodIn_app (goodIn_of _ (by decide +kernel)) ggX8_part_X8_next
set_option maxRecDepth 20000 in
theorem ggX8_part_X8_either : GoodIn wsX8_part wsX8_either := goodIn_r _ [34, 35, 36, 37, 5, 38, 39, 40, 41, 1, 14, 13, 7, 42, 43, 44, 45, 22, 23, 24, 25, 15, 26, 27, 9, 10, 11, 12, 16, 17, 18, 19, 20, 21, 28, 29, 30, 46, 47, 48, 49, 50, 51, 52, 53, 54, 55, 56, 57, 58, 59, 60, 2, 3, 4, 6, 8, 61, 62, 63, 31, 32, 33, 64, 65, 66, 67, 68, 69, 70, 71, 72, 73, 74, 75, 76, 77, 78, 79, 80, 81, 82, 83, 84, 85, 86, 87, 88, 89, 90, 91, 92, 93, 94, 95, 96, 97, 98, 99, 100, 101, 102, 103, 104, 105, 106, 107, 108, 109, 110, 111, 112, 113, 114, 115, 116, 117, 118, 119, 120, 121, 122, 123, 124, 125, 126, 127] rfl (by decide +kernel)
set_option maxRecDepth 20000 in
theorem gX8_part_X8_either : GoodIn wsX8_part (wsV RX8 199 RX8 yX8_either wsX8_either) := goodIn_app (goodIn_of _ (by decide +kernel)) ggX8_part_X8_either
set_option maxRecDepth 20000 in
theorem ggX8_part_X8_isSign : GoodIn wsX8_part wsX8_isSign := goodIn_r _ [54, 1, 14, 20, 84, 85, 86, 87, 88, 89, 90, 91, 92, 93, 94, 95, 96, 97, 98, 99, 100, 101, 102, 103, 104, 105, 106, 107, 108, 109, 110, 111, 112, 113, 114, 115, 116, 117, 118, 119, 120, 121, 122, 123, 124, 125, 126, 127] rfl (by decide +kernel)
set_option maxRecDepth 20000 in
theorem gX8_part_X8_isSign : GoodIn wsX8_part (wsV RX8 188 RX8 yX8_isSign wsX8_isSign) := goodIn_app (goodIn_of _ (by decide +kernel)) ggX8_part_X8_isSign
theorem dX8_part_0 : decode cX8_part 0 = .ok (.iload_n 1, 1) := by decide +kernel
theorem dX8_part_1 : decode cX8_part 1 = .ok (.ifCond .ne 7, 3) := by decide +kernel
theorem dX8_part_4 : decode cX8_part 4 = .ok (.aload_n 0, 1) := by decide +kernel
theorem dX8_part_5 : decode cX8_part 5 = .ok (.invokevirtual 160, 3) := by decide +kernel
theorem dX8_part_8 : decode cX8_part 8 = .ok (.aload_n 0, 1) := by decide +kernel
theorem dX8_part_9 : decode cX8_part 9 = .ok (.getfield 147, 3) := by decide +kernel
theorem dX8_part_12 : decode cX8_part 12 = .ok (.ifCond .ne 7, 3) := by decide +kernel
theorem dX8_part_15 : decode cX8_part 15 = .ok (.aload_n 0, 1) := by decide +kernel
theorem dX8_part_16 : decode cX8_part 16 = .ok (.invokevirtual 163, 3) := by decide +kernel
theorem dX8_part_19 : decode cX8_part 19 = .ok (.aload_n 0, 1) := by decide +kernel
theorem dX8_part_20 : decode cX8_part 20 = .ok (.getfield 147, 3) := by decide +kernel
theorem dX8_part_23 : decode cX8_part 23 = .ok (.ifCond .eq 7, 3) := by decide +kernel
theorem dX8_part_26 : decode cX8_part 26 = .ok (.iconst 0, 1) := by decide +kernel
theorem dX8_part_27 : decode cX8_part 27 = .ok (.goto 7, 3) := by decide +kernel
theorem dX8_part_30 : decode cX8_part 30 = .ok (.aload_n 0, 1) := by decide +kernel
theorem dX8_part_31 : decode cX8_part 31 = .ok (.invokevirtual 199, 3) := by decide +kernel
theorem dX8_part_34 : decode cX8_part 34 = .ok (.istore_n 2, 1) := by decide +kernel
theorem dX8_part_35 : decode cX8_part 35 = .ok (.aload_n 0, 1) := by decide +kernel
theorem dX8_part_36 : decode cX8_part 36 = .ok (.bipush 59, 2) := by decide +kernel
theorem dX8_part_38 : decode cX8_part 38 = .ok (.invokevirtual 188, 3) := by decide +kernel
theorem dX8_part_41 : decode cX8_part 41 = .ok (.ifCond .ne 7, 3) := by decide +kernel
theorem dX8_part_44 : decode cX8_part 44 = .ok (.aload_n 0, 1) := by decide +kernel
theorem dX8_part_45 : decode cX8_part 45 = .ok (.invokevirtual 160, 3) := by decide +kernel
theorem dX8_part_48 : decode cX8_part 48 = .ok (.aload_n 0, 1) := by decide +kernel
theorem dX8_part_49 : decode cX8_part 49 = .ok (.getfield 147, 3) := by decide +kernel
theorem dX8_part_52 : decode cX8_part 52 = .ok (.ifCond .ne 7, 3) := by decide +kernel
theorem dX8_part_55 : decode cX8_part 55 = .ok (.aload_n 0, 1) := by decide +kernel
theorem dX8_part_56 : decode cX8_part 56 = .ok (.invokevirtual 163, 3) := by decide +kernel
theorem dX8_part_59 : decode cX8_part 59 = .ok (.iload_n 2, 1) := by decide +kernel
theorem dX8_part_60 : decode cX8_part 60 = .ok (.ireturn, 1) := by decide +kernel
set_option maxRecDepth 20000 in
theorem ggX8_read_X8_next : GoodIn wsX8_read wsX8_next := goodIn_r _ [12, 4, 13, 7, 3, 14, 15, 16, 17, 18, 19, 20, 21, 22, 11, 23, 24, 1, 25, 26, 27, 89, 90, 91, 92, 93, 94, 95, 96, 97, 98, 99, 100, 101, 102, 103, 104, 105, 106, 107, 108, 109, 110, 111, 112, 113, 114, 115, 116, 117, 118, 119, 120, 121, 122, 123, 124, 125, 126, 127, 128, 129, 130, 131, 132] rfl (by decide +kernel)
set_option maxRecDepth 20000 in
theorem gX8_read_X8_next : GoodIn wsX8_read (wsV RX8 163 RX8 yX8_next wsX8_next) := goodIn_app (goodIn_of _ (by decide +kernel)) ggX8_read_X8_next
set_option maxRecDepth 20000 in
theorem ggX8_read_X8_isWord : GoodIn wsX8_read wsX8_isWord := goodIn_r _ [31, 6, 7, 4, 13, 32, 33, 34, 11, 35, 20, 21, 22, 23, 3, 24, 1, 89, 90, 91, 92, 93, 94, 95, 96, 97, 98, 99, 100, 101, 102, 103, 104, 105, 106, 107, 108, 109, 110, 111, 112, 113, 114, 115, 116, 117, 118, 119, 120, 121, 122, 123, 124, 125, 126, 127, 128, 129, 130, 131, 132] rfl (by decide +kernel)
set_option maxRecDepth 20000 in
theorem gX8_read_X8_isWord : GoodIn wsX8_read (wsV RX8 166 RX8 yX8_isWord wsX8_isWord) := goodIn_app (goodIn_of _ (by decide +kernel)) ggX8_read_X8_isWord
set_option maxRecDepth 20000 in
theorem ggX8_read_X8_part : GoodIn wsX8_read wsX8_part := goodIn_r _ [39, 6, 40, 41, 42, 11, 43, 13, 44, 8, 9, 10, 12, 4, 7, 3, 14, 15, 16, 17, 18, 19, 20, 21, 22, 23, 24, 1, 25, 26, 27, 45, 46, 47, 48, 49, 50, 51, 28, 29, 30, 31, 32, 33, 34, 35, 52, 53, 54, 55, 56, 57, 58, 59, 60, 61, 5, 62, 63, 64, 65, 66, 67, 68, 69, 70, 71, 72, 73, 74, 75, 76, 77, 78, 79, 80, 81, 82, 83, 84, 85, 86, 87, 88, 89, 90, 91, 92, 93, 94, 95, 96, 97, 98, 99, 100, 101, 102, 103, 104, 105, 106, 107, 108, 109, 110, 111, 112, 113, 114, 115, 116, 117, 118, 119, 120, 121, 122, 123, 124, 125, 126, 127, 128, 129, 130, 131, 132] rfl (by decide +kernel)
set_option maxRecDepth 20000 in
theorem gX8_read_X8_part : GoodIn wsX8_read (wsV RX8 221 RX8 yX8_part wsX8_part) := goodIn_app (goodIn_of _ (by decide +kernel)) ggX8_read_X8_part
set_option maxRecDepth 20000 in
theorem ggX8_read_X8_fail : GoodIn wsX8_read wsX8_fail := goodIn_r _ [43, 6, 13, 44, 89, 90, 91, 92, 93, 94, 95, 96, 97, 98, 99, 100, 101, 102, 103, 104, 105, 106, 107, 108, 109, 110, 111, 112, 113, 114, 115, 116, 117, 118, 119, 120, 121, 122, 123, 124, 125, 126, 127, 128, 129, 130, 131, 132] rfl (by decide +kernel)
set_option maxRecDepth 20000 in
theorem gX8_read_X8_fail : GoodIn wsX8_read (wsV RX8 160 RX8 yX8_fail wsX8_fail) := goodIn_app (goodIn_of _ (by decide +kernel)) ggX8_read_X8_fail
theorem dX8_read_0 : decode cX8_read 0 = .ok (.aload_n 0, 1) := by decide +kernel
theorem dX8_read_1 : decode cX8_read 1 = .ok (.sipush 160, 3) := by decide +kernel
theorem dX8_read_4 : decode cX8_read 4 = .ok (.iload_n 1, 1) := by decide +kernel
theorem dX8_read_5 : decode cX8_read 5 = .ok (.imul, 1) := by decide +kernel
theorem dX8_read_6 : decode cX8_read 6 = .ok (.putfield 118, 3) := by decide +kernel
theorem dX8_read_9 : decode cX8_read 9 = .ok (.aload_n 0, 1) := by decide +kernel
theorem dX8_read_10 : decode cX8_read 10 = .ok (.aload_n 0, 1) := by decide +kernel
theorem dX8_read_11 : decode cX8_read 11 = .ok (.getfield 17, 3) := by decide +kernel
theorem dX8_read_14 : decode cX8_read 14 = .ok (.iload_n 1, 1) := by decide +kernel
theorem dX8_read_15 : decode cX8_read 15 = .ok (.iaload, 1) := by decide +kernel
theorem dX8_read_16 : decode cX8_read 16 = .ok (.putfield 115, 3) := by decide +kernel
theorem dX8_read_19 : decode cX8_read 19 = .ok (.aload_n 0, 1) := by decide +kernel
theorem dX8_read_20 : decode cX8_read 20 = .ok (.iconst 0, 1) := by decide +kernel
theorem dX8_read_21 : decode cX8_read 21 = .ok (.putfield 121, 3) := by decide +kernel
theorem dX8_read_24 : decode cX8_read 24 = .ok (.aload_n 0, 1) := by decide +kernel
theorem dX8_read_25 : decode cX8_read 25 = .ok (.iconst 0, 1) := by decide +kernel
theorem dX8_read_26 : decode cX8_read 26 = .ok (.putfield 157, 3) := by decide +kernel
theorem dX8_read_29 : decode cX8_read 29 = .ok (.aload_n 0, 1) := by decide +kernel
theorem dX8_read_30 : decode cX8_read 30 = .ok (.iconst 0, 1) := by decide +kernel
theorem dX8_read_31 : decode cX8_read 31 = .ok (.putfield 147, 3) := by decide +kernel
theorem dX8_read_34 : decode cX8_read 34 = .ok (.aload_n 0, 1) := by decide +kernel
theorem dX8_read_35 : decode cX8_read 35 = .ok (.invokevirtual 163, 3) := by decide +kernel
theorem dX8_read_38 : decode cX8_read 38 = .ok (.aload_n 0, 1) := by decide +kernel
theorem dX8_read_39 : decode cX8_read 39 = .ok (.aload_n 0, 1) := by decide +kernel
theorem dX8_read_40 : decode cX8_read 40 = .ok (.bipush 110, 2) := by decide +kernel
theorem dX8_read_42 : decode cX8_read 42 = .ok (.bipush 101, 2) := by decide +kernel
theorem dX8_read_44 : decode cX8_read 44 = .ok (.bipush 101, 2) := by decide +kernel
theorem dX8_read_46 : decode cX8_read 46 = .ok (.bipush 100, 2) := by decide +kernel
theorem dX8_read_48 : decode cX8_read 48 = .ok (.bipush 115, 2) := by decide +kernel
theorem dX8_read_50 : decode cX8_read 50 = .ok (.iconst 0, 1) := by decide +kernel
theorem dX8_read_51 : decode cX8_read 51 = .ok (.iconst 0, 1) := by decide +kernel
theorem dX8_read_52 : decode cX8_read 52 = .ok (.iconst 0, 1) := by decide +kernel
theorem dX8_read_53 : decode cX8_read 53 = .ok (.invokevirtual 166, 3) := by decide +kernel
theorem dX8_read_56 : decode cX8_read 56 = .ok (.invokevirtual 221, 3) := by decide +kernel
theorem dX8_read_59 : decode cX8_read 59 = .ok (.istore_n 3, 1) := by decide +kernel
theorem dX8_read_60 : decode cX8_read 60 = .ok (.aload_n 0, 1) := by decide +kernel
theorem dX8_read_61 : decode cX8_read 61 = .ok (.getfield 147, 3) := by decide +kernel
theorem dX8_read_64 : decode cX8_read 64 = .ok (.ifCond .eq 7, 3) := by decide +kernel
theorem dX8_read_67 : decode cX8_read 67 = .ok (.iconst 0, 1) := by decide +kernel
theorem dX8_read_68 : decode cX8_read 68 = .ok (.goto 24, 3) := by decide +kernel
theorem dX8_read_71 : decode cX8_read 71 = .ok (.aload_n 0, 1) := by decide +kernel
theorem dX8_read_72 : decode cX8_read 72 = .ok (.aload_n 0, 1) := by decide +kernel
theorem dX8_read_73 : decode cX8_read 73 = .ok (.bipush 116, 2) := by decide +kernel
theorem dX8_read_75 : decode cX8_read 75 = .ok (.bipush 97, 2) := by decide +kernel
theorem dX8_read_77 : decode cX8_read 77 = .ok (.bipush 107, 2) := by decide +kernel
theorem dX8_read_79 : decode cX8_read 79 = .ok (.bipush 101, 2) := by decide +kernel
theorem dX8_read_81 : decode cX8_read 81 = .ok (.bipush 115, 2) := by decide +kernel
theorem dX8_read_83 : decode cX8_read 83 = .ok (.iconst 0, 1) := by decide +kernel
theorem dX8_read_84 : decode cX8_read 84 = .ok (.iconst 0, 1) := by decide +kernel
theorem dX8_read_85 : decode cX8_read 85 = .ok (.iconst 0, 1) := by decide +kernel
theorem dX8_read_86 : decode cX8_read 86 = .ok (.invokevirtual 166, 3) := by decide +kernel
theorem dX8_read_89 : decode cX8_read 89 = .ok (.invokevirtual 221, 3) := by decide +kernel
theorem dX8_read_92 : decode cX8_read 92 = .ok (.istore 4, 2) := by decide +kernel
theorem dX8_read_94 : decode cX8_read 94 = .ok (.aload_n 0, 1) := by decide +kernel
theorem dX8_read_95 : decode cX8_read 95 = .ok (.getfield 147, 3) := by decide +kernel
theorem dX8_read_98 : decode cX8_read 98 = .ok (.ifCond .eq 7, 3) := by decide +kernel
theorem dX8_read_101 : decode cX8_read 101 = .ok (.iconst 0, 1) := by decide +kernel
theorem dX8_read_102 : decode cX8_read 102 = .ok (.goto 24, 3) := by decide +kernel
theorem dX8_read_105 : decode cX8_read 105 = .ok (.aload_n 0, 1) := by decide +kernel
theorem dX8_read_106 : decode cX8_read 106 = .ok (.aload_n 0, 1) := by decide +kernel
theorem dX8_read_107 : decode cX8_read 107 = .ok (.bipush 118, 2) := by decide +kernel
theorem dX8_read_109 : decode cX8_read 109 = .ok (.bipush 97, 2) := by decide +kernel
theorem dX8_read_111 : decode cX8_read 111 = .ok (.bipush 108, 2) := by decide +kernel
theorem dX8_read_113 : decode cX8_read 113 = .ok (.bipush 117, 2) := by decide +kernel
theorem dX8_read_115 : decode cX8_read 115 = .ok (.bipush 101, 2) := by decide +kernel
theorem dX8_read_117 : decode cX8_read 117 = .ok (.iconst 0, 1) := by decide +kernel
theorem dX8_read_118 : decode cX8_read 118 = .ok (.iconst 0, 1) := by decide +kernel
theorem dX8_read_119 : decode cX8_read 119 = .ok (.iconst 0, 1) := by decide +kernel
theorem dX8_read_120 : decode cX8_read 120 = .ok (.invokevirtual 166, 3) := by decide +kernel
theorem dX8_read_123 : decode cX8_read 123 = .ok (.invokevirtual 221, 3) := by decide +kernel
theorem dX8_read_126 : decode cX8_read 126 = .ok (.istore 5, 2) := by decide +kernel
theorem dX8_read_128 : decode cX8_read 128 = .ok (.aload_n 0, 1) := by decide +kernel
theorem dX8_read_129 : decode cX8_read 129 = .ok (.getfield 147, 3) := by decide +kernel
theorem dX8_read_132 : decode cX8_read 132 = .ok (.ifCond .ne 14, 3) := by decide +kernel
theorem dX8_read_135 : decode cX8_read 135 = .ok (.aload_n 0, 1) := by decide +kernel
theorem dX8_read_136 : decode cX8_read 136 = .ok (.getfield 130, 3) := by decide +kernel
theorem dX8_read_139 : decode cX8_read 139 = .ok (.ifCond .eq 7, 3) := by decide +kernel
theorem dX8_read_142 : decode cX8_read 142 = .ok (.aload_n 0, 1) := by decide +kernel
theorem dX8_read_143 : decode cX8_read 143 = .ok (.invokevirtual 160, 3) := by decide +kernel
theorem dX8_read_146 : decode cX8_read 146 = .ok (.iload_n 2, 1) := by decide +kernel
theorem dX8_read_147 : decode cX8_read 147 = .ok (.ifCond .ne 7, 3) := by decide +kernel
theorem dX8_read_150 : decode cX8_read 150 = .ok (.iload_n 3, 1) := by decide +kernel
theorem dX8_read_151 : decode cX8_read 151 = .ok (.goto 15, 3) := by decide +kernel
theorem dX8_read_154 : decode cX8_read 154 = .ok (.iload_n 2, 1) := by decide +kernel
theorem dX8_read_155 : decode cX8_read 155 = .ok (.iconst 1, 1) := by decide +kernel
theorem dX8_read_156 : decode cX8_read 156 = .ok (.if_icmp .ne 8, 3) := by decide +kernel
theorem dX8_read_159 : decode cX8_read 159 = .ok (.iload 4, 2) := by decide +kernel
theorem dX8_read_161 : decode cX8_read 161 = .ok (.goto 5, 3) := by decide +kernel
theorem dX8_read_164 : decode cX8_read 164 = .ok (.iload 5, 2) := by decide +kernel
theorem dX8_read_166 : decode cX8_read 166 = .ok (.ireturn, 1) := by decide +kernel
set_option maxRecDepth 20000 in
theorem ggX8_text_X8_read : GoodIn wsX8_text wsX8_read := goodIn_r _ [12, 13, 5, 14, 15, 16, 6, 17, 18, 19, 20, 11, 21, 22, 23, 24, 25, 26, 27, 28, 29, 30, 31, 32, 3, 33, 34, 35, 36, 37, 38, 39, 40, 41, 42, 43, 44, 45, 46, 47, 48, 49, 50, 51, 7, 52, 53, 54, 55, 56, 57, 58, 59, 60, 61, 62, 63, 64, 65, 66, 67, 68, 69, 70, 71, 72, 73, 74, 75, 76, 77, 78, 79, 80, 81, 82, 83, 84, 85, 86, 87, 88, 89, 90, 91, 92, 93, 94, 95, 96, 97, 98, 99, 100, 101, 102, 103, 104, 105, 106, 107, 108, 109, 110, 111, 112, 113, 114, 115, 116, 117, 118, 119, 120, 121, 122, 123, 124, 125, 126, 127, 128, 129, 130, 131, 132, 133, 134, 135, 136, 137, 138, 139] rfl (by decide +kernel)
set_option maxRecDepth 20000 in
theorem gX8_text_X8_read : GoodIn wsX8_text (wsV RX8 225 RX8 yX8_read wsX8_read) := goodIn_app (goodIn_of _ (by decide +kernel)) ggX8_text_X8_read
theorem dX8_text_0 : decode cX8_text 0 = .ok (.aload_n 0, 1) := by decide +kernel
theorem dX8_text_1 : decode cX8_text 1 = .ok (.getfield 61, 3) := by decide +kernel
theorem dX8_text_4 : decode cX8_text 4 = .ok (.bipush 6, 2) := by decide +kernel
theorem dX8_text_6 : decode cX8_text 6 = .ok (.if_icmp .ne 6, 3) := by decide +kernel
theorem dX8_text_9 : decode cX8_text 9 = .ok (.bipush (-4), 2) := by decide +kernel
theorem dX8_text_11 : decode cX8_text 11 = .ok (.ireturn, 1) := by decide +kernel
theorem dX8_text_12 : decode cX8_text 12 = .ok (.iconst 0, 1) := by decide +kernel
theorem dX8_text_13 : decode cX8_text 13 = .ok (.istore_n 1, 1) := by decide +kernel
theorem dX8_text_14 : decode cX8_text 14 = .ok (.iload_n 1, 1) := by decide +kernel
theorem dX8_text_15 : decode cX8_text 15 = .ok (.aload_n 0, 1) := by decide +kernel
theorem dX8_text_16 : decode cX8_text 16 = .ok (.getfield 112, 3) := by decide +kernel
theorem dX8_text_19 : decode cX8_text 19 = .ok (.if_icmp .ge 30, 3) := by decide +kernel
theorem dX8_text_22 : decode cX8_text 22 = .ok (.aload_n 0, 1) := by decide +kernel
theorem dX8_text_23 : decode cX8_text 23 = .ok (.getfield 13, 3) := by decide +kernel
theorem dX8_text_26 : decode cX8_text 26 = .ok (.sipush 160, 3) := by decide +kernel
theorem dX8_text_29 : decode cX8_text 29 = .ok (.aload_n 0, 1) := by decide +kernel
theorem dX8_text_30 : decode cX8_text 30 = .ok (.getfield 61, 3) := by decide +kernel
theorem dX8_text_33 : decode cX8_text 33 = .ok (.imul, 1) := by decide +kernel
theorem dX8_text_34 : decode cX8_text 34 = .ok (.iload_n 1, 1) := by decide +kernel
theorem dX8_text_35 : decode cX8_text 35 = .ok (.iadd, 1) := by decide +kernel
theorem dX8_text_36 : decode cX8_text 36 = .ok (.aload_n 0, 1) := by decide +kernel
theorem dX8_text_37 : decode cX8_text 37 = .ok (.getfield 20, 3) := by decide +kernel
theorem dX8_text_40 : decode cX8_text 40 = .ok (.iload_n 1, 1) := by decide +kernel
theorem dX8_text_41 : decode cX8_text 41 = .ok (.iaload, 1) := by decide +kernel
theorem dX8_text_42 : decode cX8_text 42 = .ok (.iastore, 1) := by decide +kernel
theorem dX8_text_43 : decode cX8_text 43 = .ok (.iinc 1 1, 3) := by decide +kernel
theorem dX8_text_46 : decode cX8_text 46 = .ok (.goto (-32), 3) := by decide +kernel
theorem dX8_text_49 : decode cX8_text 49 = .ok (.aload_n 0, 1) := by decide +kernel
theorem dX8_text_50 : decode cX8_text 50 = .ok (.getfield 17, 3) := by decide +kernel
theorem dX8_text_53 : decode cX8_text 53 = .ok (.aload_n 0, 1) := by decide +kernel
theorem dX8_text_54 : decode cX8_text 54 = .ok (.getfield 61, 3) := by decide +kernel
theorem dX8_text_57 : decode cX8_text 57 = .ok (.aload_n 0, 1) := by decide +kernel
theorem dX8_text_58 : decode cX8_text 58 = .ok (.getfield 112, 3) := by decide +kernel
theorem dX8_text_61 : decode cX8_text 61 = .ok (.iastore, 1) := by decide +kernel
theorem dX8_text_62 : decode cX8_text 62 = .ok (.aload_n 0, 1) := by decide +kernel
theorem dX8_text_63 : decode cX8_text 63 = .ok (.iconst 0, 1) := by decide +kernel
theorem dX8_text_64 : decode cX8_text 64 = .ok (.putfield 112, 3) := by decide +kernel
theorem dX8_text_67 : decode cX8_text 67 = .ok (.aload_n 0, 1) := by decide +kernel
theorem dX8_text_68 : decode cX8_text 68 = .ok (.aload_n 0, 1) := by decide +kernel
theorem dX8_text_69 : decode cX8_text 69 = .ok (.getfield 61, 3) := by decide +kernel
theorem dX8_text_72 : decode cX8_text 72 = .ok (.iconst 0, 1) := by decide +kernel
theorem dX8_text_73 : decode cX8_text 73 = .ok (.invokevirtual 225, 3) := by decide +kernel
theorem dX8_text_76 : decode cX8_text 76 = .ok (.istore_n 1, 1) := by decide +kernel
theorem dX8_text_77 : decode cX8_text 77 = .ok (.aload_n 0, 1) := by decide +kernel
theorem dX8_text_78 : decode cX8_text 78 = .ok (.getfield 147, 3) := by decide +kernel
theorem dX8_text_81 : decode cX8_text 81 = .ok (.ifCond .eq 11, 3) := by decide +kernel
theorem dX8_text_84 : decode cX8_text 84 = .ok (.bipush (-100), 2) := by decide +kernel
theorem dX8_text_86 : decode cX8_text 86 = .ok (.aload_n 0, 1) := by decide +kernel
theorem dX8_text_87 : decode cX8_text 87 = .ok (.getfield 151, 3) := by decide +kernel
theorem dX8_text_90 : decode cX8_text 90 = .ok (.isub, 1) := by decide +kernel
theorem dX8_text_91 : decode cX8_text 91 = .ok (.ireturn, 1) := by decide +kernel
theorem dX8_text_92 : decode cX8_text 92 = .ok (.aload_n 0, 1) := by decide +kernel
theorem dX8_text_93 : decode cX8_text 93 = .ok (.dup, 1) := by decide +kernel
theorem dX8_text_94 : decode cX8_text 94 = .ok (.getfield 61, 3) := by decide +kernel
theorem dX8_text_97 : decode cX8_text 97 = .ok (.iconst 1, 1) := by decide +kernel
theorem dX8_text_98 : decode cX8_text 98 = .ok (.iadd, 1) := by decide +kernel
theorem dX8_text_99 : decode cX8_text 99 = .ok (.putfield 61, 3) := by decide +kernel
theorem dX8_text_102 : decode cX8_text 102 = .ok (.aload_n 0, 1) := by decide +kernel
theorem dX8_text_103 : decode cX8_text 103 = .ok (.getfield 61, 3) := by decide +kernel
theorem dX8_text_106 : decode cX8_text 106 = .ok (.iconst 1, 1) := by decide +kernel
theorem dX8_text_107 : decode cX8_text 107 = .ok (.isub, 1) := by decide +kernel
theorem dX8_text_108 : decode cX8_text 108 = .ok (.ireturn, 1) := by decide +kernel
set_option maxRecDepth 20000 in
theorem ggX8_force_X8_in : GoodIn wsX8_force wsX8_in := goodIn_r _ [6] rfl (by decide +kernel)
set_option maxRecDepth 20000 in
theorem gX8_force_X8_in : GoodIn wsX8_force (va_wsS RX8 67 yX8_in wsX8_in) := goodIn_app (goodIn_of _ (by decide +kernel)) ggX8_force_X8_in
theorem dX8_force_0 : decode cX8_force 0 = .ok (.iload_n 1, 1) := by decide +kernel
theorem dX8_force_1 : decode cX8_force 1 = .ok (.i2l, 1) := by decide +kernel
theorem dX8_force_2 : decode cX8_force 2 = .ok (.lconst 0, 1) := by decide +kernel
theorem dX8_force_3 : decode cX8_force 3 = .ok (.aload_n 0, 1) := by decide +kernel
theorem dX8_force_4 : decode cX8_force 4 = .ok (.getfield 61, 3) := by decide +kernel
theorem dX8_force_7 : decode cX8_force 7 = .ok (.iconst 1, 1) := by decide +kernel
theorem dX8_force_8 : decode cX8_force 8 = .ok (.isub, 1) := by decide +kernel
theorem dX8_force_9 : decode cX8_force 9 = .ok (.i2l, 1) := by decide +kernel
theorem dX8_force_10 : decode cX8_force 10 = .ok (.invokestatic 67, 3) := by decide +kernel
theorem dX8_force_13 : decode cX8_force 13 = .ok (.ifCond .ne 6, 3) := by decide +kernel
theorem dX8_force_16 : decode cX8_force 16 = .ok (.bipush (-2), 2) := by decide +kernel
theorem dX8_force_18 : decode cX8_force 18 = .ok (.ireturn, 1) := by decide +kernel
theorem dX8_force_19 : decode cX8_force 19 = .ok (.aload_n 0, 1) := by decide +kernel
theorem dX8_force_20 : decode cX8_force 20 = .ok (.getfield 103, 3) := by decide +kernel
theorem dX8_force_23 : decode cX8_force 23 = .ok (.istore_n 2, 1) := by decide +kernel
theorem dX8_force_24 : decode cX8_force 24 = .ok (.aload_n 0, 1) := by decide +kernel
theorem dX8_force_25 : decode cX8_force 25 = .ok (.iload_n 1, 1) := by decide +kernel
theorem dX8_force_26 : decode cX8_force 26 = .ok (.putfield 103, 3) := by decide +kernel
theorem dX8_force_29 : decode cX8_force 29 = .ok (.iload_n 2, 1) := by decide +kernel
theorem dX8_force_30 : decode cX8_force 30 = .ok (.ireturn, 1) := by decide +kernel
theorem dX8_isShaken_0 : decode cX8_isShaken 0 = .ok (.aload_n 0, 1) := by decide +kernel
theorem dX8_isShaken_1 : decode cX8_isShaken 1 = .ok (.getfield 29, 3) := by decide +kernel
theorem dX8_isShaken_4 : decode cX8_isShaken 4 = .ok (.iconst 3, 1) := by decide +kernel
theorem dX8_isShaken_5 : decode cX8_isShaken 5 = .ok (.iload_n 1, 1) := by decide +kernel
theorem dX8_isShaken_6 : decode cX8_isShaken 6 = .ok (.imul, 1) := by decide +kernel
theorem dX8_isShaken_7 : decode cX8_isShaken 7 = .ok (.iconst 2, 1) := by decide +kernel
theorem dX8_isShaken_8 : decode cX8_isShaken 8 = .ok (.iadd, 1) := by decide +kernel
theorem dX8_isShaken_9 : decode cX8_isShaken 9 = .ok (.iaload, 1) := by decide +kernel
theorem dX8_isShaken_10 : decode cX8_isShaken 10 = .ok (.iconst 1, 1) := by decide +kernel
theorem dX8_isShaken_11 : decode cX8_isShaken 11 = .ok (.if_icmp .ne 7, 3) := by decide +kernel
theorem dX8_isShaken_14 : decode cX8_isShaken 14 = .ok (.iconst 1, 1) := by decide +kernel
theorem dX8_isShaken_15 : decode cX8_isShaken 15 = .ok (.goto 4, 3) := by decide +kernel
theorem dX8_isShaken_18 : decode cX8_isShaken 18 = .ok (.iconst 0, 1) := by decide +kernel
theorem dX8_isShaken_19 : decode cX8_isShaken 19 = .ok (.ireturn, 1) := by decide +kernel
theorem dX8_shakenMany_0 : decode cX8_shakenMany 0 = .ok (.iconst 0, 1) := by decide +kernel
theorem dX8_shakenMany_1 : decode cX8_shakenMany 1 = .ok (.istore_n 1, 1) := by decide +kernel
theorem dX8_shakenMany_2 : decode cX8_shakenMany 2 = .ok (.iconst 0, 1) := by decide +kernel
theorem dX8_shakenMany_3 : decode cX8_shakenMany 3 = .ok (.istore_n 2, 1) := by decide +kernel
theorem dX8_shakenMany_4 : decode cX8_shakenMany 4 = .ok (.iload_n 2, 1) := by decide +kernel
theorem dX8_shakenMany_5 : decode cX8_shakenMany 5 = .ok (.aload_n 0, 1) := by decide +kernel
theorem dX8_shakenMany_6 : decode cX8_shakenMany 6 = .ok (.getfield 64, 3) := by decide +kernel
theorem dX8_shakenMany_9 : decode cX8_shakenMany 9 = .ok (.if_icmp .ge 22, 3) := by decide +kernel
theorem dX8_shakenMany_12 : decode cX8_shakenMany 12 = .ok (.iload_n 1, 1) := by decide +kernel
theorem dX8_shakenMany_13 : decode cX8_shakenMany 13 = .ok (.aload_n 0, 1) := by decide +kernel
theorem dX8_shakenMany_14 : decode cX8_shakenMany 14 = .ok (.getfield 29, 3) := by decide +kernel
theorem dX8_shakenMany_17 : decode cX8_shakenMany 17 = .ok (.iconst 3, 1) := by decide +kernel
theorem dX8_shakenMany_18 : decode cX8_shakenMany 18 = .ok (.iload_n 2, 1) := by decide +kernel
theorem dX8_shakenMany_19 : decode cX8_shakenMany 19 = .ok (.imul, 1) := by decide +kernel
theorem dX8_shakenMany_20 : decode cX8_shakenMany 20 = .ok (.iconst 2, 1) := by decide +kernel
theorem dX8_shakenMany_21 : decode cX8_shakenMany 21 = .ok (.iadd, 1) := by decide +kernel
theorem dX8_shakenMany_22 : decode cX8_shakenMany 22 = .ok (.iaload, 1) := by decide +kernel
theorem dX8_shakenMany_23 : decode cX8_shakenMany 23 = .ok (.iadd, 1) := by decide +kernel
theorem dX8_shakenMany_24 : decode cX8_shakenMany 24 = .ok (.istore_n 1, 1) := by decide +kernel
theorem dX8_shakenMany_25 : decode cX8_shakenMany 25 = .ok (.iinc 2 1, 3) := by decide +kernel
theorem dX8_shakenMany_28 : decode cX8_shakenMany 28 = .ok (.goto (-24), 3) := by decide +kernel
theorem dX8_shakenMany_31 : decode cX8_shakenMany 31 = .ok (.iload_n 1, 1) := by decide +kernel
theorem dX8_shakenMany_32 : decode cX8_shakenMany 32 = .ok (.ireturn, 1) := by decide +kernel
theorem dX8_rainOf_0 : decode cX8_rainOf 0 = .ok (.aload_n 0, 1) := by decide +kernel
theorem dX8_rainOf_1 : decode cX8_rainOf 1 = .ok (.getfield 23, 3) := by decide +kernel
theorem dX8_rainOf_4 : decode cX8_rainOf 4 = .ok (.bipush 24, 2) := by decide +kernel
theorem dX8_rainOf_6 : decode cX8_rainOf 6 = .ok (.aload_n 0, 1) := by decide +kernel
theorem dX8_rainOf_7 : decode cX8_rainOf 7 = .ok (.getfield 29, 3) := by decide +kernel
theorem dX8_rainOf_10 : decode cX8_rainOf 10 = .ok (.iconst 3, 1) := by decide +kernel
theorem dX8_rainOf_11 : decode cX8_rainOf 11 = .ok (.iload_n 1, 1) := by decide +kernel
theorem dX8_rainOf_12 : decode cX8_rainOf 12 = .ok (.imul, 1) := by decide +kernel
theorem dX8_rainOf_13 : decode cX8_rainOf 13 = .ok (.iconst 1, 1) := by decide +kernel
theorem dX8_rainOf_14 : decode cX8_rainOf 14 = .ok (.iadd, 1) := by decide +kernel
theorem dX8_rainOf_15 : decode cX8_rainOf 15 = .ok (.iaload, 1) := by decide +kernel
theorem dX8_rainOf_16 : decode cX8_rainOf 16 = .ok (.imul, 1) := by decide +kernel
theorem dX8_rainOf_17 : decode cX8_rainOf 17 = .ok (.iload_n 2, 1) := by decide +kernel
theorem dX8_rainOf_18 : decode cX8_rainOf 18 = .ok (.iadd, 1) := by decide +kernel
theorem dX8_rainOf_19 : decode cX8_rainOf 19 = .ok (.iaload, 1) := by decide +kernel
theorem dX8_rainOf_20 : decode cX8_rainOf 20 = .ok (.ireturn, 1) := by decide +kernel
set_option maxRecDepth 20000 in
theorem ggX8_says_X8_rainOf : GoodIn wsX8_says wsX8_rainOf := goodIn_r _ [14, 15, 3, 104, 105, 106, 107, 108, 109, 110, 111, 112, 113, 114, 115, 116, 117, 118, 119, 120, 121, 122, 123, 124, 125, 126, 127, 128, 129, 130, 131, 132, 133, 134, 135, 136, 137, 138, 139, 140, 141, 142, 143, 144, 145, 146, 147] rfl (by decide +kernel)
set_option maxRecDepth 20000 in
theorem gX8_says_X8_rainOf : GoodIn wsX8_says (wsV RX8 228 RX8 yX8_rainOf wsX8_rainOf) := goodIn_app (goodIn_of _ (by decide +kernel)) ggX8_says_X8_rainOf
set_option maxRecDepth 20000 in
theorem ggX8_says_X8_read : GoodIn wsX8_says wsX8_read := goodIn_r _ [19, 20, 21, 22, 23, 24, 25, 26, 27, 28, 29, 13, 30, 31, 32, 33, 34, 35, 36, 37, 38, 39, 40, 41, 42, 43, 44, 45, 46, 47, 48, 49, 50, 51, 52, 53, 54, 55, 56, 57, 58, 59, 60, 61, 62, 63, 64, 65, 66, 67, 68, 69, 70, 71, 72, 73, 74, 75, 76, 77, 78, 79, 80, 81, 82, 83, 84, 85, 86, 87, 88, 89, 90, 1, 2, 4, 5, 6, 8, 91, 92, 93, 94, 95, 96, 97, 98, 99, 100, 104, 105, 106, 107, 108, 109, 110, 111, 112, 113, 114, 115, 116, 117, 118, 119, 120, 121, 122, 123, 124, 125, 126, 127, 128, 129, 130, 131, 132, 133, 134, 135, 136, 137, 138, 139, 140, 141, 142, 143, 144, 145, 146, 147] rfl (by decide +kernel)
set_option maxRecDepth 20000 in
theorem gX8_says_X8_read : GoodIn wsX8_says (wsV RX8 225 RX8 yX8_read wsX8_read) := goodIn_app (goodIn_of _ (by decide +kernel)) ggX8_says_X8_read
set_option maxRecDepth 20000 in
theorem ggX8_says_X8_within : GoodIn wsX8_says wsX8_within := goodIn_r _ [103] rfl (by decide +kernel)
set_option maxRecDepth 20000 in
theorem gX8_says_X8_within : GoodIn wsX8_says (va_wsS RX8 231 yX8_within wsX8_within) := goodIn_app (goodIn_of _ (by decide +kernel)) ggX8_says_X8_within
theorem dX8_says_0 : decode cX8_says 0 = .ok (.aload_n 0, 1) := by decide +kernel
theorem dX8_says_1 : decode cX8_says 1 = .ok (.aload_n 0, 1) := by decide +kernel
theorem dX8_says_2 : decode cX8_says 2 = .ok (.iload_n 2, 1) := by decide +kernel
theorem dX8_says_3 : decode cX8_says 3 = .ok (.iload_n 3, 1) := by decide +kernel
theorem dX8_says_4 : decode cX8_says 4 = .ok (.invokevirtual 228, 3) := by decide +kernel
theorem dX8_says_7 : decode cX8_says 7 = .ok (.putfield 170, 3) := by decide +kernel
theorem dX8_says_10 : decode cX8_says 10 = .ok (.aload_n 0, 1) := by decide +kernel
theorem dX8_says_11 : decode cX8_says 11 = .ok (.iload_n 3, 1) := by decide +kernel
theorem dX8_says_12 : decode cX8_says 12 = .ok (.putfield 173, 3) := by decide +kernel
theorem dX8_says_15 : decode cX8_says 15 = .ok (.aload_n 0, 1) := by decide +kernel
theorem dX8_says_16 : decode cX8_says 16 = .ok (.aload_n 0, 1) := by decide +kernel
theorem dX8_says_17 : decode cX8_says 17 = .ok (.getfield 29, 3) := by decide +kernel
theorem dX8_says_20 : decode cX8_says 20 = .ok (.iconst 3, 1) := by decide +kernel
theorem dX8_says_21 : decode cX8_says 21 = .ok (.iload_n 2, 1) := by decide +kernel
theorem dX8_says_22 : decode cX8_says 22 = .ok (.imul, 1) := by decide +kernel
theorem dX8_says_23 : decode cX8_says 23 = .ok (.iaload, 1) := by decide +kernel
theorem dX8_says_24 : decode cX8_says 24 = .ok (.putfield 176, 3) := by decide +kernel
theorem dX8_says_27 : decode cX8_says 27 = .ok (.aload_n 0, 1) := by decide +kernel
theorem dX8_says_28 : decode cX8_says 28 = .ok (.iload 4, 2) := by decide +kernel
theorem dX8_says_30 : decode cX8_says 30 = .ok (.putfield 179, 3) := by decide +kernel
theorem dX8_says_33 : decode cX8_says 33 = .ok (.aload_n 0, 1) := by decide +kernel
theorem dX8_says_34 : decode cX8_says 34 = .ok (.aload_n 0, 1) := by decide +kernel
theorem dX8_says_35 : decode cX8_says 35 = .ok (.getfield 29, 3) := by decide +kernel
theorem dX8_says_38 : decode cX8_says 38 = .ok (.iconst 3, 1) := by decide +kernel
theorem dX8_says_39 : decode cX8_says 39 = .ok (.iload_n 2, 1) := by decide +kernel
theorem dX8_says_40 : decode cX8_says 40 = .ok (.imul, 1) := by decide +kernel
theorem dX8_says_41 : decode cX8_says 41 = .ok (.iconst 1, 1) := by decide +kernel
theorem dX8_says_42 : decode cX8_says 42 = .ok (.iadd, 1) := by decide +kernel
theorem dX8_says_43 : decode cX8_says 43 = .ok (.iaload, 1) := by decide +kernel
theorem dX8_says_44 : decode cX8_says 44 = .ok (.putfield 182, 3) := by decide +kernel
theorem dX8_says_47 : decode cX8_says 47 = .ok (.aload_n 0, 1) := by decide +kernel
theorem dX8_says_48 : decode cX8_says 48 = .ok (.aload_n 0, 1) := by decide +kernel
theorem dX8_says_49 : decode cX8_says 49 = .ok (.getfield 97, 3) := by decide +kernel
theorem dX8_says_52 : decode cX8_says 52 = .ok (.putfield 185, 3) := by decide +kernel
theorem dX8_says_55 : decode cX8_says 55 = .ok (.aload_n 0, 1) := by decide +kernel
theorem dX8_says_56 : decode cX8_says 56 = .ok (.aload_n 0, 1) := by decide +kernel
theorem dX8_says_57 : decode cX8_says 57 = .ok (.getfield 103, 3) := by decide +kernel
theorem dX8_says_60 : decode cX8_says 60 = .ok (.iload_n 1, 1) := by decide +kernel
theorem dX8_says_61 : decode cX8_says 61 = .ok (.invokevirtual 225, 3) := by decide +kernel
theorem dX8_says_64 : decode cX8_says 64 = .ok (.iconst 0, 1) := by decide +kernel
theorem dX8_says_65 : decode cX8_says 65 = .ok (.iload_n 1, 1) := by decide +kernel
theorem dX8_says_66 : decode cX8_says 66 = .ok (.ifCond .ne 8, 3) := by decide +kernel
theorem dX8_says_69 : decode cX8_says 69 = .ok (.bipush 9, 2) := by decide +kernel
theorem dX8_says_71 : decode cX8_says 71 = .ok (.goto 15, 3) := by decide +kernel
theorem dX8_says_74 : decode cX8_says 74 = .ok (.iload_n 1, 1) := by decide +kernel
theorem dX8_says_75 : decode cX8_says 75 = .ok (.iconst 1, 1) := by decide +kernel
theorem dX8_says_76 : decode cX8_says 76 = .ok (.if_icmp .ne 8, 3) := by decide +kernel
theorem dX8_says_79 : decode cX8_says 79 = .ok (.bipush 24, 2) := by decide +kernel
theorem dX8_says_81 : decode cX8_says 81 = .ok (.goto 5, 3) := by decide +kernel
theorem dX8_says_84 : decode cX8_says 84 = .ok (.bipush 99, 2) := by decide +kernel
theorem dX8_says_86 : decode cX8_says 86 = .ok (.invokestatic 231, 3) := by decide +kernel
theorem dX8_says_89 : decode cX8_says 89 = .ok (.ireturn, 1) := by decide +kernel
set_option maxRecDepth 20000 in
theorem ggX8_needsOf_X8_says : GoodIn wsX8_needsOf wsX8_says := goodIn_r _ [7, 8, 9, 2, 10, 11, 12, 13, 14, 15, 16, 17, 18, 6, 19, 20, 21, 22, 23, 24, 25, 26, 27, 28, 29, 30, 31, 32, 33, 34, 35, 36, 37, 38, 39, 40, 41, 42, 43, 44, 45, 46, 47, 48, 49, 50, 51, 52, 53, 54, 55, 56, 57, 58, 59, 60, 61, 62, 63, 64, 65, 66, 67, 68, 69, 70, 71, 72, 73, 74, 75, 76, 77, 78, 79, 80, 81, 82, 83, 84, 85, 86, 87, 88, 89, 90, 91, 92, 93, 94, 95, 96, 97, 98, 99, 100, 101, 102, 103, 104, 105, 106, 107, 108, 109, 110, 111, 112, 113, 114, 115, 116, 117, 118, 119, 120, 121, 122, 123, 124, 125, 126, 127, 128, 129, 130, 131, 132, 133, 134, 135, 136, 137, 138, 139, 140, 141, 142, 143, 144, 145, 146, 147, 148, 149, 150, 151, 152] rfl (by decide +kernel)
set_option maxRecDepth 20000 in
theorem gX8_needsOf_X8_says : GoodIn wsX8_needsOf (wsV RX8 235 RX8 yX8_says wsX8_says) := goodIn_app (goodIn_of _ (by decide +kernel)) ggX8_needsOf_X8_says
set_option maxRecDepth 20000 in
theorem ggX8_needsOf_X8_within : GoodIn wsX8_needsOf wsX8_within := goodIn_r _ [108] rfl (by decide +kernel)
set_option maxRecDepth 20000 in
theorem gX8_needsOf_X8_within : GoodIn wsX8_needsOf (va_wsS RX8 231 yX8_within wsX8_within) := goodIn_app (goodIn_of _ (by decide +kernel)) ggX8_needsOf_X8_within
theorem dX8_needsOf_0 : decode cX8_needsOf 0 = .ok (.aload_n 0, 1) := by decide +kernel
theorem dX8_needsOf_1 : decode cX8_needsOf 1 = .ok (.getfield 26, 3) := by decide +kernel
theorem dX8_needsOf_4 : decode cX8_needsOf 4 = .ok (.iload_n 1, 1) := by decide +kernel
theorem dX8_needsOf_5 : decode cX8_needsOf 5 = .ok (.iaload, 1) := by decide +kernel
theorem dX8_needsOf_6 : decode cX8_needsOf 6 = .ok (.istore 4, 2) := by decide +kernel
theorem dX8_needsOf_8 : decode cX8_needsOf 8 = .ok (.iload 4, 2) := by decide +kernel
theorem dX8_needsOf_10 : decode cX8_needsOf 10 = .ok (.iconst 5, 1) := by decide +kernel
theorem dX8_needsOf_11 : decode cX8_needsOf 11 = .ok (.if_icmp .ne 5, 3) := by decide +kernel
theorem dX8_needsOf_14 : decode cX8_needsOf 14 = .ok (.iconst 1, 1) := by decide +kernel
theorem dX8_needsOf_15 : decode cX8_needsOf 15 = .ok (.ireturn, 1) := by decide +kernel
theorem dX8_needsOf_16 : decode cX8_needsOf 16 = .ok (.aload_n 0, 1) := by decide +kernel
theorem dX8_needsOf_17 : decode cX8_needsOf 17 = .ok (.iconst 0, 1) := by decide +kernel
theorem dX8_needsOf_18 : decode cX8_needsOf 18 = .ok (.iload_n 1, 1) := by decide +kernel
theorem dX8_needsOf_19 : decode cX8_needsOf 19 = .ok (.iload_n 2, 1) := by decide +kernel
theorem dX8_needsOf_20 : decode cX8_needsOf 20 = .ok (.iload_n 3, 1) := by decide +kernel
theorem dX8_needsOf_21 : decode cX8_needsOf 21 = .ok (.invokevirtual 235, 3) := by decide +kernel
theorem dX8_needsOf_24 : decode cX8_needsOf 24 = .ok (.istore 5, 2) := by decide +kernel
theorem dX8_needsOf_26 : decode cX8_needsOf 26 = .ok (.iload 4, 2) := by decide +kernel
theorem dX8_needsOf_28 : decode cX8_needsOf 28 = .ok (.iconst 1, 1) := by decide +kernel
theorem dX8_needsOf_29 : decode cX8_needsOf 29 = .ok (.if_icmp .eq 9, 3) := by decide +kernel
theorem dX8_needsOf_32 : decode cX8_needsOf 32 = .ok (.iload 4, 2) := by decide +kernel
theorem dX8_needsOf_34 : decode cX8_needsOf 34 = .ok (.iconst 3, 1) := by decide +kernel
theorem dX8_needsOf_35 : decode cX8_needsOf 35 = .ok (.if_icmp .ne 10, 3) := by decide +kernel
theorem dX8_needsOf_38 : decode cX8_needsOf 38 = .ok (.iload 5, 2) := by decide +kernel
theorem dX8_needsOf_40 : decode cX8_needsOf 40 = .ok (.iconst 2, 1) := by decide +kernel
theorem dX8_needsOf_41 : decode cX8_needsOf 41 = .ok (.idiv, 1) := by decide +kernel
theorem dX8_needsOf_42 : decode cX8_needsOf 42 = .ok (.goto 42, 3) := by decide +kernel
theorem dX8_needsOf_45 : decode cX8_needsOf 45 = .ok (.iload 4, 2) := by decide +kernel
theorem dX8_needsOf_47 : decode cX8_needsOf 47 = .ok (.iconst 2, 1) := by decide +kernel
theorem dX8_needsOf_48 : decode cX8_needsOf 48 = .ok (.if_icmp .ne 10, 3) := by decide +kernel
theorem dX8_needsOf_51 : decode cX8_needsOf 51 = .ok (.iload 5, 2) := by decide +kernel
theorem dX8_needsOf_53 : decode cX8_needsOf 53 = .ok (.iconst 2, 1) := by decide +kernel
theorem dX8_needsOf_54 : decode cX8_needsOf 54 = .ok (.iadd, 1) := by decide +kernel
theorem dX8_needsOf_55 : decode cX8_needsOf 55 = .ok (.goto 29, 3) := by decide +kernel
theorem dX8_needsOf_58 : decode cX8_needsOf 58 = .ok (.iload 4, 2) := by decide +kernel
theorem dX8_needsOf_60 : decode cX8_needsOf 60 = .ok (.iconst 4, 1) := by decide +kernel
theorem dX8_needsOf_61 : decode cX8_needsOf 61 = .ok (.if_icmp .ne 21, 3) := by decide +kernel
theorem dX8_needsOf_64 : decode cX8_needsOf 64 = .ok (.iload 5, 2) := by decide +kernel
theorem dX8_needsOf_66 : decode cX8_needsOf 66 = .ok (.iconst 2, 1) := by decide +kernel
theorem dX8_needsOf_67 : decode cX8_needsOf 67 = .ok (.iadd, 1) := by decide +kernel
theorem dX8_needsOf_68 : decode cX8_needsOf 68 = .ok (.aload_n 0, 1) := by decide +kernel
theorem dX8_needsOf_69 : decode cX8_needsOf 69 = .ok (.getfield 29, 3) := by decide +kernel
theorem dX8_needsOf_72 : decode cX8_needsOf 72 = .ok (.iconst 3, 1) := by decide +kernel
theorem dX8_needsOf_73 : decode cX8_needsOf 73 = .ok (.iload_n 1, 1) := by decide +kernel
theorem dX8_needsOf_74 : decode cX8_needsOf 74 = .ok (.imul, 1) := by decide +kernel
theorem dX8_needsOf_75 : decode cX8_needsOf 75 = .ok (.iaload, 1) := by decide +kernel
theorem dX8_needsOf_76 : decode cX8_needsOf 76 = .ok (.iconst 3, 1) := by decide +kernel
theorem dX8_needsOf_77 : decode cX8_needsOf 77 = .ok (.idiv, 1) := by decide +kernel
theorem dX8_needsOf_78 : decode cX8_needsOf 78 = .ok (.iadd, 1) := by decide +kernel
theorem dX8_needsOf_79 : decode cX8_needsOf 79 = .ok (.goto 5, 3) := by decide +kernel
theorem dX8_needsOf_82 : decode cX8_needsOf 82 = .ok (.iload 5, 2) := by decide +kernel
theorem dX8_needsOf_84 : decode cX8_needsOf 84 = .ok (.iconst 1, 1) := by decide +kernel
theorem dX8_needsOf_85 : decode cX8_needsOf 85 = .ok (.bipush 9, 2) := by decide +kernel
theorem dX8_needsOf_87 : decode cX8_needsOf 87 = .ok (.invokestatic 231, 3) := by decide +kernel
theorem dX8_needsOf_90 : decode cX8_needsOf 90 = .ok (.ireturn, 1) := by decide +kernel
set_option maxRecDepth 20000 in
theorem ggX8_takesOf_X8_says : GoodIn wsX8_takesOf wsX8_says := goodIn_r _ [7, 8, 9, 2, 10, 11, 12, 13, 14, 15, 16, 17, 18, 6, 19, 20, 21, 22, 23, 24, 25, 26, 27, 28, 29, 30, 31, 32, 33, 34, 35, 36, 37, 38, 39, 40, 41, 42, 43, 44, 45, 46, 47, 48, 49, 50, 51, 52, 53, 54, 55, 56, 57, 58, 59, 60, 61, 62, 63, 64, 65, 66, 67, 68, 69, 70, 71, 72, 73, 74, 75, 76, 77, 78, 79, 80, 81, 82, 83, 84, 85, 86, 87, 88, 89, 90, 91, 92, 93, 94, 95, 96, 97, 98, 99, 100, 101, 102, 103, 104, 105, 106, 107, 108, 109, 110, 111, 112, 113, 114, 115, 116, 117, 118, 119, 120, 121, 122, 123, 124, 125, 126, 127, 128, 129, 130, 131, 132, 133, 134, 135, 136, 137, 138, 139, 140, 141, 142, 143, 144, 145, 146, 147, 148, 149, 150, 151, 152] rfl (by decide +kernel)
set_option maxRecDepth 20000 in
theorem gX8_takesOf_X8_says : GoodIn wsX8_takesOf (wsV RX8 235 RX8 yX8_says wsX8_says) := goodIn_app (goodIn_of _ (by decide +kernel)) ggX8_takesOf_X8_says
set_option maxRecDepth 20000 in
theorem ggX8_takesOf_X8_within : GoodIn wsX8_takesOf wsX8_within := goodIn_r _ [108] rfl (by decide +kernel)
set_option maxRecDepth 20000 in
theorem gX8_takesOf_X8_within : GoodIn wsX8_takesOf (va_wsS RX8 231 yX8_within wsX8_within) := goodIn_app (goodIn_of _ (by decide +kernel)) ggX8_takesOf_X8_within
theorem dX8_takesOf_0 : decode cX8_takesOf 0 = .ok (.aload_n 0, 1) := by decide +kernel
theorem dX8_takesOf_1 : decode cX8_takesOf 1 = .ok (.getfield 26, 3) := by decide +kernel
theorem dX8_takesOf_4 : decode cX8_takesOf 4 = .ok (.iload_n 1, 1) := by decide +kernel
theorem dX8_takesOf_5 : decode cX8_takesOf 5 = .ok (.iaload, 1) := by decide +kernel
theorem dX8_takesOf_6 : decode cX8_takesOf 6 = .ok (.istore 4, 2) := by decide +kernel
theorem dX8_takesOf_8 : decode cX8_takesOf 8 = .ok (.iload 4, 2) := by decide +kernel
theorem dX8_takesOf_10 : decode cX8_takesOf 10 = .ok (.iconst 5, 1) := by decide +kernel
theorem dX8_takesOf_11 : decode cX8_takesOf 11 = .ok (.if_icmp .ne 5, 3) := by decide +kernel
theorem dX8_takesOf_14 : decode cX8_takesOf 14 = .ok (.iconst 1, 1) := by decide +kernel
theorem dX8_takesOf_15 : decode cX8_takesOf 15 = .ok (.ireturn, 1) := by decide +kernel
theorem dX8_takesOf_16 : decode cX8_takesOf 16 = .ok (.aload_n 0, 1) := by decide +kernel
theorem dX8_takesOf_17 : decode cX8_takesOf 17 = .ok (.iconst 1, 1) := by decide +kernel
theorem dX8_takesOf_18 : decode cX8_takesOf 18 = .ok (.iload_n 1, 1) := by decide +kernel
theorem dX8_takesOf_19 : decode cX8_takesOf 19 = .ok (.iload_n 2, 1) := by decide +kernel
theorem dX8_takesOf_20 : decode cX8_takesOf 20 = .ok (.iload_n 3, 1) := by decide +kernel
theorem dX8_takesOf_21 : decode cX8_takesOf 21 = .ok (.invokevirtual 235, 3) := by decide +kernel
theorem dX8_takesOf_24 : decode cX8_takesOf 24 = .ok (.istore 5, 2) := by decide +kernel
theorem dX8_takesOf_26 : decode cX8_takesOf 26 = .ok (.iload 4, 2) := by decide +kernel
theorem dX8_takesOf_28 : decode cX8_takesOf 28 = .ok (.iconst 1, 1) := by decide +kernel
theorem dX8_takesOf_29 : decode cX8_takesOf 29 = .ok (.if_icmp .ne 10, 3) := by decide +kernel
theorem dX8_takesOf_32 : decode cX8_takesOf 32 = .ok (.iload 5, 2) := by decide +kernel
theorem dX8_takesOf_34 : decode cX8_takesOf 34 = .ok (.iconst 1, 1) := by decide +kernel
theorem dX8_takesOf_35 : decode cX8_takesOf 35 = .ok (.isub, 1) := by decide +kernel
theorem dX8_takesOf_36 : decode cX8_takesOf 36 = .ok (.goto 48, 3) := by decide +kernel
theorem dX8_takesOf_39 : decode cX8_takesOf 39 = .ok (.iload 4, 2) := by decide +kernel
theorem dX8_takesOf_41 : decode cX8_takesOf 41 = .ok (.iconst 3, 1) := by decide +kernel
theorem dX8_takesOf_42 : decode cX8_takesOf 42 = .ok (.if_icmp .ne 21, 3) := by decide +kernel
theorem dX8_takesOf_45 : decode cX8_takesOf 45 = .ok (.iload 5, 2) := by decide +kernel
theorem dX8_takesOf_47 : decode cX8_takesOf 47 = .ok (.iconst 1, 1) := by decide +kernel
theorem dX8_takesOf_48 : decode cX8_takesOf 48 = .ok (.isub, 1) := by decide +kernel
theorem dX8_takesOf_49 : decode cX8_takesOf 49 = .ok (.aload_n 0, 1) := by decide +kernel
theorem dX8_takesOf_50 : decode cX8_takesOf 50 = .ok (.getfield 29, 3) := by decide +kernel
theorem dX8_takesOf_53 : decode cX8_takesOf 53 = .ok (.iconst 3, 1) := by decide +kernel
theorem dX8_takesOf_54 : decode cX8_takesOf 54 = .ok (.iload_n 1, 1) := by decide +kernel
theorem dX8_takesOf_55 : decode cX8_takesOf 55 = .ok (.imul, 1) := by decide +kernel
theorem dX8_takesOf_56 : decode cX8_takesOf 56 = .ok (.iaload, 1) := by decide +kernel
theorem dX8_takesOf_57 : decode cX8_takesOf 57 = .ok (.iconst 3, 1) := by decide +kernel
theorem dX8_takesOf_58 : decode cX8_takesOf 58 = .ok (.irem, 1) := by decide +kernel
theorem dX8_takesOf_59 : decode cX8_takesOf 59 = .ok (.iadd, 1) := by decide +kernel
theorem dX8_takesOf_60 : decode cX8_takesOf 60 = .ok (.goto 24, 3) := by decide +kernel
theorem dX8_takesOf_63 : decode cX8_takesOf 63 = .ok (.iload 4, 2) := by decide +kernel
theorem dX8_takesOf_65 : decode cX8_takesOf 65 = .ok (.iconst 2, 1) := by decide +kernel
theorem dX8_takesOf_66 : decode cX8_takesOf 66 = .ok (.if_icmp .eq 9, 3) := by decide +kernel
theorem dX8_takesOf_69 : decode cX8_takesOf 69 = .ok (.iload 4, 2) := by decide +kernel
theorem dX8_takesOf_71 : decode cX8_takesOf 71 = .ok (.iconst 4, 1) := by decide +kernel
theorem dX8_takesOf_72 : decode cX8_takesOf 72 = .ok (.if_icmp .ne 10, 3) := by decide +kernel
theorem dX8_takesOf_75 : decode cX8_takesOf 75 = .ok (.iconst 2, 1) := by decide +kernel
theorem dX8_takesOf_76 : decode cX8_takesOf 76 = .ok (.iload 5, 2) := by decide +kernel
theorem dX8_takesOf_78 : decode cX8_takesOf 78 = .ok (.imul, 1) := by decide +kernel
theorem dX8_takesOf_79 : decode cX8_takesOf 79 = .ok (.goto 5, 3) := by decide +kernel
theorem dX8_takesOf_82 : decode cX8_takesOf 82 = .ok (.iload 5, 2) := by decide +kernel
theorem dX8_takesOf_84 : decode cX8_takesOf 84 = .ok (.iconst 1, 1) := by decide +kernel
theorem dX8_takesOf_85 : decode cX8_takesOf 85 = .ok (.bipush 24, 2) := by decide +kernel
theorem dX8_takesOf_87 : decode cX8_takesOf 87 = .ok (.invokestatic 231, 3) := by decide +kernel
theorem dX8_takesOf_90 : decode cX8_takesOf 90 = .ok (.ireturn, 1) := by decide +kernel
set_option maxRecDepth 20000 in
theorem ggX8_worthOf_X8_says : GoodIn wsX8_worthOf wsX8_says := goodIn_r _ [7, 8, 9, 2, 10, 11, 12, 13, 14, 15, 16, 17, 18, 6, 19, 20, 21, 22, 23, 24, 25, 26, 27, 28, 29, 30, 31, 32, 33, 34, 35, 36, 37, 38, 39, 40, 41, 42, 43, 44, 45, 46, 47, 48, 49, 50, 51, 52, 53, 54, 55, 56, 57, 58, 59, 60, 61, 62, 63, 64, 65, 66, 67, 68, 69, 70, 71, 72, 73, 74, 75, 76, 77, 78, 79, 80, 81, 82, 83, 84, 85, 86, 87, 88, 89, 90, 91, 92, 93, 94, 95, 96, 97, 98, 99, 100, 101, 102, 103, 104, 105, 106, 107, 108, 109, 110, 111, 112, 113, 114, 115, 116, 117, 118, 119, 120, 121, 122, 123, 124, 125, 126, 127, 128, 129, 130, 131, 132, 133, 134, 135, 136, 137, 138, 139, 140, 141, 142, 143, 144, 145, 146, 147, 148, 149, 150, 151, 152] rfl (by decide +kernel)
set_option maxRecDepth 20000 in
theorem gX8_worthOf_X8_says : GoodIn wsX8_worthOf (wsV RX8 235 RX8 yX8_says wsX8_says) := goodIn_app (goodIn_of _ (by decide +kernel)) ggX8_worthOf_X8_says
set_option maxRecDepth 20000 in
theorem ggX8_worthOf_X8_within : GoodIn wsX8_worthOf wsX8_within := goodIn_r _ [108] rfl (by decide +kernel)
set_option maxRecDepth 20000 in
theorem gX8_worthOf_X8_within : GoodIn wsX8_worthOf (va_wsS RX8 231 yX8_within wsX8_within) := goodIn_app (goodIn_of _ (by decide +kernel)) ggX8_worthOf_X8_within
theorem dX8_worthOf_0 : decode cX8_worthOf 0 = .ok (.aload_n 0, 1) := by decide +kernel
theorem dX8_worthOf_1 : decode cX8_worthOf 1 = .ok (.getfield 26, 3) := by decide +kernel
theorem dX8_worthOf_4 : decode cX8_worthOf 4 = .ok (.iload_n 1, 1) := by decide +kernel
theorem dX8_worthOf_5 : decode cX8_worthOf 5 = .ok (.iaload, 1) := by decide +kernel
theorem dX8_worthOf_6 : decode cX8_worthOf 6 = .ok (.istore 4, 2) := by decide +kernel
theorem dX8_worthOf_8 : decode cX8_worthOf 8 = .ok (.iload 4, 2) := by decide +kernel
theorem dX8_worthOf_10 : decode cX8_worthOf 10 = .ok (.iconst 5, 1) := by decide +kernel
theorem dX8_worthOf_11 : decode cX8_worthOf 11 = .ok (.if_icmp .ne 21, 3) := by decide +kernel
theorem dX8_worthOf_14 : decode cX8_worthOf 14 = .ok (.iload_n 2, 1) := by decide +kernel
theorem dX8_worthOf_15 : decode cX8_worthOf 15 = .ok (.iconst 3, 1) := by decide +kernel
theorem dX8_worthOf_16 : decode cX8_worthOf 16 = .ok (.if_icmp .ge 14, 3) := by decide +kernel
theorem dX8_worthOf_19 : decode cX8_worthOf 19 = .ok (.aload_n 0, 1) := by decide +kernel
theorem dX8_worthOf_20 : decode cX8_worthOf 20 = .ok (.getfield 29, 3) := by decide +kernel
theorem dX8_worthOf_23 : decode cX8_worthOf 23 = .ok (.iconst 3, 1) := by decide +kernel
theorem dX8_worthOf_24 : decode cX8_worthOf 24 = .ok (.iload_n 1, 1) := by decide +kernel
theorem dX8_worthOf_25 : decode cX8_worthOf 25 = .ok (.imul, 1) := by decide +kernel
theorem dX8_worthOf_26 : decode cX8_worthOf 26 = .ok (.iaload, 1) := by decide +kernel
theorem dX8_worthOf_27 : decode cX8_worthOf 27 = .ok (.goto 4, 3) := by decide +kernel
theorem dX8_worthOf_30 : decode cX8_worthOf 30 = .ok (.iconst 0, 1) := by decide +kernel
theorem dX8_worthOf_31 : decode cX8_worthOf 31 = .ok (.ireturn, 1) := by decide +kernel
theorem dX8_worthOf_32 : decode cX8_worthOf 32 = .ok (.aload_n 0, 1) := by decide +kernel
theorem dX8_worthOf_33 : decode cX8_worthOf 33 = .ok (.iconst 2, 1) := by decide +kernel
theorem dX8_worthOf_34 : decode cX8_worthOf 34 = .ok (.iload_n 1, 1) := by decide +kernel
theorem dX8_worthOf_35 : decode cX8_worthOf 35 = .ok (.iload_n 2, 1) := by decide +kernel
theorem dX8_worthOf_36 : decode cX8_worthOf 36 = .ok (.iload_n 3, 1) := by decide +kernel
theorem dX8_worthOf_37 : decode cX8_worthOf 37 = .ok (.invokevirtual 235, 3) := by decide +kernel
theorem dX8_worthOf_40 : decode cX8_worthOf 40 = .ok (.istore 5, 2) := by decide +kernel
theorem dX8_worthOf_42 : decode cX8_worthOf 42 = .ok (.iload 4, 2) := by decide +kernel
theorem dX8_worthOf_44 : decode cX8_worthOf 44 = .ok (.iconst 2, 1) := by decide +kernel
theorem dX8_worthOf_45 : decode cX8_worthOf 45 = .ok (.if_icmp .ne 11, 3) := by decide +kernel
theorem dX8_worthOf_48 : decode cX8_worthOf 48 = .ok (.iload 5, 2) := by decide +kernel
theorem dX8_worthOf_50 : decode cX8_worthOf 50 = .ok (.bipush 10, 2) := by decide +kernel
theorem dX8_worthOf_52 : decode cX8_worthOf 52 = .ok (.iadd, 1) := by decide +kernel
theorem dX8_worthOf_53 : decode cX8_worthOf 53 = .ok (.goto 50, 3) := by decide +kernel
theorem dX8_worthOf_56 : decode cX8_worthOf 56 = .ok (.iload 4, 2) := by decide +kernel
theorem dX8_worthOf_58 : decode cX8_worthOf 58 = .ok (.iconst 3, 1) := by decide +kernel
theorem dX8_worthOf_59 : decode cX8_worthOf 59 = .ok (.if_icmp .ne 12, 3) := by decide +kernel
theorem dX8_worthOf_62 : decode cX8_worthOf 62 = .ok (.iload 5, 2) := by decide +kernel
theorem dX8_worthOf_64 : decode cX8_worthOf 64 = .ok (.iconst 2, 1) := by decide +kernel
theorem dX8_worthOf_65 : decode cX8_worthOf 65 = .ok (.iload_n 2, 1) := by decide +kernel
theorem dX8_worthOf_66 : decode cX8_worthOf 66 = .ok (.imul, 1) := by decide +kernel
theorem dX8_worthOf_67 : decode cX8_worthOf 67 = .ok (.isub, 1) := by decide +kernel
theorem dX8_worthOf_68 : decode cX8_worthOf 68 = .ok (.goto 35, 3) := by decide +kernel
theorem dX8_worthOf_71 : decode cX8_worthOf 71 = .ok (.iload 4, 2) := by decide +kernel
theorem dX8_worthOf_73 : decode cX8_worthOf 73 = .ok (.iconst 4, 1) := by decide +kernel
theorem dX8_worthOf_74 : decode cX8_worthOf 74 = .ok (.if_icmp .ne 27, 3) := by decide +kernel
theorem dX8_worthOf_77 : decode cX8_worthOf 77 = .ok (.iload_n 2, 1) := by decide +kernel
theorem dX8_worthOf_78 : decode cX8_worthOf 78 = .ok (.bipush 11, 2) := by decide +kernel
theorem dX8_worthOf_80 : decode cX8_worthOf 80 = .ok (.if_icmp .le 13, 3) := by decide +kernel
theorem dX8_worthOf_83 : decode cX8_worthOf 83 = .ok (.iconst 2, 1) := by decide +kernel
theorem dX8_worthOf_84 : decode cX8_worthOf 84 = .ok (.iload 5, 2) := by decide +kernel
theorem dX8_worthOf_86 : decode cX8_worthOf 86 = .ok (.bipush 10, 2) := by decide +kernel
theorem dX8_worthOf_88 : decode cX8_worthOf 88 = .ok (.iadd, 1) := by decide +kernel
theorem dX8_worthOf_89 : decode cX8_worthOf 89 = .ok (.imul, 1) := by decide +kernel
theorem dX8_worthOf_90 : decode cX8_worthOf 90 = .ok (.goto 13, 3) := by decide +kernel
theorem dX8_worthOf_93 : decode cX8_worthOf 93 = .ok (.iload 5, 2) := by decide +kernel
theorem dX8_worthOf_95 : decode cX8_worthOf 95 = .ok (.bipush 10, 2) := by decide +kernel
theorem dX8_worthOf_97 : decode cX8_worthOf 97 = .ok (.iadd, 1) := by decide +kernel
theorem dX8_worthOf_98 : decode cX8_worthOf 98 = .ok (.goto 5, 3) := by decide +kernel
theorem dX8_worthOf_101 : decode cX8_worthOf 101 = .ok (.iload 5, 2) := by decide +kernel
theorem dX8_worthOf_103 : decode cX8_worthOf 103 = .ok (.iconst 0, 1) := by decide +kernel
theorem dX8_worthOf_104 : decode cX8_worthOf 104 = .ok (.sipush 999, 3) := by decide +kernel
theorem dX8_worthOf_107 : decode cX8_worthOf 107 = .ok (.invokestatic 231, 3) := by decide +kernel
theorem dX8_worthOf_110 : decode cX8_worthOf 110 = .ok (.ireturn, 1) := by decide +kernel
set_option maxRecDepth 20000 in
theorem ggX8_holds_X8_needsOf : GoodIn wsX8_holds wsX8_needsOf := goodIn_r _ [5, 6, 7, 8, 9, 10, 4, 11, 12, 13, 14, 15, 16, 17, 18, 19, 20, 21, 22, 23, 24, 25, 26, 27, 28, 29, 30, 31, 32, 33, 34, 35, 36, 37, 38, 39, 40, 41, 42, 43, 44, 45, 46, 47, 48, 49, 50, 51, 52, 53, 54, 55, 56, 57, 58, 59, 60, 61, 62, 63, 64, 65, 66, 67, 68, 69, 70, 71, 72, 73, 74, 75, 76, 77, 78, 79, 80, 81, 82, 83, 84, 85, 86, 87, 88, 89, 90, 91, 92, 93, 94, 95, 96, 97, 98, 99, 100, 101, 102, 103, 104, 105, 106, 107, 108, 109, 110, 111, 112, 117, 118, 119, 120, 121, 122, 123, 124, 125, 126, 127, 128, 129, 130, 131, 132, 133, 134, 135, 136, 137, 138, 139, 140, 141, 142, 143, 144, 145, 146, 147, 148, 149, 150, 151, 152, 153, 154, 155, 156, 157, 158, 159, 160] rfl (by decide +kernel)
set_option maxRecDepth 20000 in
theorem gX8_holds_X8_needsOf : GoodIn wsX8_holds (wsV RX8 239 RX8 yX8_needsOf wsX8_needsOf) := goodIn_app (goodIn_of _ (by decide +kernel)) ggX8_holds_X8_needsOf
set_option maxRecDepth 20000 in
theorem ggX8_holds_X8_takesOf : GoodIn wsX8_holds wsX8_takesOf := goodIn_r _ [116, 6, 7, 8, 9, 10, 4, 11, 12, 13, 14, 15, 16, 17, 18, 19, 20, 21, 22, 23, 24, 25, 26, 27, 28, 29, 30, 31, 32, 33, 34, 35, 36, 37, 38, 39, 40, 41, 42, 43, 44, 45, 46, 47, 48, 49, 50, 51, 52, 53, 54, 55, 56, 57, 58, 59, 60, 61, 62, 63, 64, 65, 66, 67, 68, 69, 70, 71, 72, 73, 74, 75, 76, 77, 78, 79, 80, 81, 82, 83, 84, 85, 86, 87, 88, 89, 90, 91, 92, 93, 94, 95, 96, 97, 98, 99, 100, 101, 102, 103, 104, 105, 106, 107, 108, 109, 110, 111, 112, 117, 118, 119, 120, 121, 122, 123, 124, 125, 126, 127, 128, 129, 130, 131, 132, 133, 134, 135, 136, 137, 138, 139, 140, 141, 142, 143, 144, 145, 146, 147, 148, 149, 150, 151, 152, 153, 154, 155, 156, 157, 158, 159, 160] rfl (by decide +kernel)
set_option maxRecDepth 20000 in
theorem gX8_holds_X8_takesOf : GoodIn wsX8_holds (wsV RX8 242 RX8 yX8_takesOf wsX8_takesOf) := goodIn_app (goodIn_of _ (by decide +kernel)) ggX8_holds_X8_takesOf
set_option maxRecDepth 20000 in
theorem ggX8_holds_X8_rainOf : GoodIn wsX8_holds wsX8_rainOf := goodIn_r _ [23, 24, 7, 117, 118, 119, 120, 121, 122, 123, 124, 125, 126, 127, 128, 129, 130, 131, 132, 133, 134, 135, 136, 137, 138, 139, 140, 141, 142, 143, 144, 145, 146, 147, 148, 149, 150, 151, 152, 153, 154, 155, 156, 157, 158, 159, 160] rfl (by decide +kernel)
set_option maxRecDepth 20000 in
theorem gX8_holds_X8_rainOf : GoodIn wsX8_holds (wsV RX8 228 RX8 yX8_rainOf wsX8_rainOf) := goodIn_app (goodIn_of _ (by decide +kernel)) ggX8_holds_X8_rainOf
theorem dX8_holds_0 : decode cX8_holds 0 = .ok (.aload_n 0, 1) := by decide +kernel
theorem dX8_holds_1 : decode cX8_holds 1 = .ok (.iload_n 1, 1) := by decide +kernel
theorem dX8_holds_2 : decode cX8_holds 2 = .ok (.iload_n 2, 1) := by decide +kernel
theorem dX8_holds_3 : decode cX8_holds 3 = .ok (.iload_n 3, 1) := by decide +kernel
theorem dX8_holds_4 : decode cX8_holds 4 = .ok (.invokevirtual 239, 3) := by decide +kernel
theorem dX8_holds_7 : decode cX8_holds 7 = .ok (.istore 4, 2) := by decide +kernel
theorem dX8_holds_9 : decode cX8_holds 9 = .ok (.iload_n 2, 1) := by decide +kernel
theorem dX8_holds_10 : decode cX8_holds 10 = .ok (.aload_n 0, 1) := by decide +kernel
theorem dX8_holds_11 : decode cX8_holds 11 = .ok (.iload_n 1, 1) := by decide +kernel
theorem dX8_holds_12 : decode cX8_holds 12 = .ok (.iload_n 2, 1) := by decide +kernel
theorem dX8_holds_13 : decode cX8_holds 13 = .ok (.iload_n 3, 1) := by decide +kernel
theorem dX8_holds_14 : decode cX8_holds 14 = .ok (.invokevirtual 242, 3) := by decide +kernel
theorem dX8_holds_17 : decode cX8_holds 17 = .ok (.iadd, 1) := by decide +kernel
theorem dX8_holds_18 : decode cX8_holds 18 = .ok (.iconst 1, 1) := by decide +kernel
theorem dX8_holds_19 : decode cX8_holds 19 = .ok (.isub, 1) := by decide +kernel
theorem dX8_holds_20 : decode cX8_holds 20 = .ok (.istore 5, 2) := by decide +kernel
theorem dX8_holds_22 : decode cX8_holds 22 = .ok (.iload 5, 2) := by decide +kernel
theorem dX8_holds_24 : decode cX8_holds 24 = .ok (.bipush 24, 2) := by decide +kernel
theorem dX8_holds_26 : decode cX8_holds 26 = .ok (.if_icmp .lt 5, 3) := by decide +kernel
theorem dX8_holds_29 : decode cX8_holds 29 = .ok (.iconst 0, 1) := by decide +kernel
theorem dX8_holds_30 : decode cX8_holds 30 = .ok (.ireturn, 1) := by decide +kernel
theorem dX8_holds_31 : decode cX8_holds 31 = .ok (.iload_n 2, 1) := by decide +kernel
theorem dX8_holds_32 : decode cX8_holds 32 = .ok (.istore 6, 2) := by decide +kernel
theorem dX8_holds_34 : decode cX8_holds 34 = .ok (.iload 6, 2) := by decide +kernel
theorem dX8_holds_36 : decode cX8_holds 36 = .ok (.iload 5, 2) := by decide +kernel
theorem dX8_holds_38 : decode cX8_holds 38 = .ok (.if_icmp .gt 23, 3) := by decide +kernel
theorem dX8_holds_41 : decode cX8_holds 41 = .ok (.aload_n 0, 1) := by decide +kernel
theorem dX8_holds_42 : decode cX8_holds 42 = .ok (.iload_n 1, 1) := by decide +kernel
theorem dX8_holds_43 : decode cX8_holds 43 = .ok (.iload 6, 2) := by decide +kernel
theorem dX8_holds_45 : decode cX8_holds 45 = .ok (.invokevirtual 228, 3) := by decide +kernel
theorem dX8_holds_48 : decode cX8_holds 48 = .ok (.iload 4, 2) := by decide +kernel
theorem dX8_holds_50 : decode cX8_holds 50 = .ok (.if_icmp .ge 5, 3) := by decide +kernel
theorem dX8_holds_53 : decode cX8_holds 53 = .ok (.iconst 0, 1) := by decide +kernel
theorem dX8_holds_54 : decode cX8_holds 54 = .ok (.ireturn, 1) := by decide +kernel
theorem dX8_holds_55 : decode cX8_holds 55 = .ok (.iinc 6 1, 3) := by decide +kernel
theorem dX8_holds_58 : decode cX8_holds 58 = .ok (.goto (-24), 3) := by decide +kernel
theorem dX8_holds_61 : decode cX8_holds 61 = .ok (.iconst 1, 1) := by decide +kernel
theorem dX8_holds_62 : decode cX8_holds 62 = .ok (.ireturn, 1) := by decide +kernel
set_option maxRecDepth 20000 in
theorem ggX8_shakes_X8_holds : GoodIn wsX8_shakes wsX8_holds := goodIn_r _ [5, 6, 7, 8, 4, 9, 10, 11, 12, 13, 14, 15, 16, 17, 18, 19, 20, 21, 22, 23, 24, 25, 26, 27, 28, 29, 30, 31, 32, 33, 34, 35, 36, 37, 38, 39, 40, 41, 42, 43, 44, 45, 46, 47, 48, 49, 50, 51, 52, 53, 54, 55, 56, 57, 58, 59, 60, 61, 62, 63, 64, 65, 66, 67, 68, 69, 70, 71, 72, 73, 74, 75, 76, 77, 78, 79, 80, 81, 82, 83, 84, 85, 86, 87, 88, 89, 90, 91, 92, 93, 94, 95, 96, 97, 98, 99, 100, 101, 102, 103, 104, 105, 106, 107, 108, 109, 110, 111, 112, 113, 114, 115, 116, 117, 118, 119, 120, 121, 122, 123, 124, 125, 126, 127, 128, 129, 130, 131, 132, 133, 134, 135, 136, 137, 138, 139, 140, 141, 142, 143, 144, 145, 146, 147, 148, 149, 150, 151, 152, 153, 154, 155, 156, 157, 158, 159, 160, 161, 162, 163, 164] rfl (by decide +kernel)
set_option maxRecDepth 20000 in
theorem gX8_shakes_X8_holds : GoodIn wsX8_shakes (wsV RX8 245 RX8 yX8_holds wsX8_holds) := goodIn_app (goodIn_of _ (by decide +kernel)) ggX8_shakes_X8_holds
set_option maxRecDepth 20000 in
theorem ggX8_shakes_X8_takesOf : GoodIn wsX8_shakes wsX8_takesOf := goodIn_r _ [120, 10, 11, 12, 13, 14, 4, 15, 16, 17, 18, 19, 20, 21, 22, 23, 24, 25, 26, 27, 28, 29, 30, 31, 32, 33, 34, 35, 36, 37, 38, 39, 40, 41, 42, 43, 44, 45, 46, 47, 48, 49, 50, 51, 52, 53, 54, 55, 56, 57, 58, 59, 60, 61, 62, 63, 64, 65, 66, 67, 68, 69, 70, 71, 72, 73, 74, 75, 76, 77, 78, 79, 80, 81, 82, 83, 84, 85, 86, 87, 88, 89, 90, 91, 92, 93, 94, 95, 96, 97, 98, 99, 100, 101, 102, 103, 104, 105, 106, 107, 108, 109, 110, 111, 112, 113, 114, 115, 116, 121, 122, 123, 124, 125, 126, 127, 128, 129, 130, 131, 132, 133, 134, 135, 136, 137, 138, 139, 140, 141, 142, 143, 144, 145, 146, 147, 148, 149, 150, 151, 152, 153, 154, 155, 156, 157, 158, 159, 160, 161, 162, 163, 164] rfl (by decide +kernel)
set_option maxRecDepth 20000 in
theorem gX8_shakes_X8_takesOf : GoodIn wsX8_shakes (wsV RX8 242 RX8 yX8_takesOf wsX8_takesOf) := goodIn_app (goodIn_of _ (by decide +kernel)) ggX8_shakes_X8_takesOf
theorem dX8_shakes_0 : decode cX8_shakes 0 = .ok (.iload_n 2, 1) := by decide +kernel
theorem dX8_shakes_1 : decode cX8_shakes 1 = .ok (.istore 4, 2) := by decide +kernel
theorem dX8_shakes_3 : decode cX8_shakes 3 = .ok (.iload 4, 2) := by decide +kernel
theorem dX8_shakes_5 : decode cX8_shakes 5 = .ok (.bipush 24, 2) := by decide +kernel
theorem dX8_shakes_7 : decode cX8_shakes 7 = .ok (.if_icmp .ge 34, 3) := by decide +kernel
theorem dX8_shakes_10 : decode cX8_shakes 10 = .ok (.aload_n 0, 1) := by decide +kernel
theorem dX8_shakes_11 : decode cX8_shakes 11 = .ok (.iload_n 1, 1) := by decide +kernel
theorem dX8_shakes_12 : decode cX8_shakes 12 = .ok (.iload 4, 2) := by decide +kernel
theorem dX8_shakes_14 : decode cX8_shakes 14 = .ok (.iload_n 3, 1) := by decide +kernel
theorem dX8_shakes_15 : decode cX8_shakes 15 = .ok (.invokevirtual 245, 3) := by decide +kernel
theorem dX8_shakes_18 : decode cX8_shakes 18 = .ok (.ifCond .eq 17, 3) := by decide +kernel
theorem dX8_shakes_21 : decode cX8_shakes 21 = .ok (.iload 4, 2) := by decide +kernel
theorem dX8_shakes_23 : decode cX8_shakes 23 = .ok (.aload_n 0, 1) := by decide +kernel
theorem dX8_shakes_24 : decode cX8_shakes 24 = .ok (.iload_n 1, 1) := by decide +kernel
theorem dX8_shakes_25 : decode cX8_shakes 25 = .ok (.iload 4, 2) := by decide +kernel
theorem dX8_shakes_27 : decode cX8_shakes 27 = .ok (.iload_n 3, 1) := by decide +kernel
theorem dX8_shakes_28 : decode cX8_shakes 28 = .ok (.invokevirtual 242, 3) := by decide +kernel
theorem dX8_shakes_31 : decode cX8_shakes 31 = .ok (.iadd, 1) := by decide +kernel
theorem dX8_shakes_32 : decode cX8_shakes 32 = .ok (.iconst 1, 1) := by decide +kernel
theorem dX8_shakes_33 : decode cX8_shakes 33 = .ok (.isub, 1) := by decide +kernel
theorem dX8_shakes_34 : decode cX8_shakes 34 = .ok (.ireturn, 1) := by decide +kernel
theorem dX8_shakes_35 : decode cX8_shakes 35 = .ok (.iinc 4 1, 3) := by decide +kernel
theorem dX8_shakes_38 : decode cX8_shakes 38 = .ok (.goto (-35), 3) := by decide +kernel
theorem dX8_shakes_41 : decode cX8_shakes 41 = .ok (.iconst (-1), 1) := by decide +kernel
theorem dX8_shakes_42 : decode cX8_shakes 42 = .ok (.ireturn, 1) := by decide +kernel
set_option maxRecDepth 20000 in
theorem ggX8_asks_X8_isOne : GoodIn wsX8_asks wsX8_isOne := goodIn_r _ [6, 7, 8, 9, 5, 10, 143, 144, 145, 146, 147, 148, 149, 150, 151, 152, 153, 154, 155, 156, 157, 158, 159, 160, 161, 162, 163, 164, 165, 166, 167, 168, 169, 170, 171, 172, 173, 174, 175, 176, 177, 178, 179, 180, 181, 182, 183, 184, 185, 186] rfl (by decide +kernel)
set_option maxRecDepth 20000 in
theorem gX8_asks_X8_isOne : GoodIn wsX8_asks (wsV RX8 75 RX8 yX8_isOne wsX8_isOne) := goodIn_app (goodIn_of _ (by decide +kernel)) ggX8_asks_X8_isOne
set_option maxRecDepth 20000 in
theorem ggX8_asks_X8_isHour : GoodIn wsX8_asks wsX8_isHour := goodIn_r _ [13, 14, 8, 9, 5, 10] rfl (by decide +kernel)
set_option maxRecDepth 20000 in
theorem gX8_asks_X8_isHour : GoodIn wsX8_asks (va_wsS RX8 249 yX8_isHour wsX8_isHour) := goodIn_app (goodIn_of _ (by decide +kernel)) ggX8_asks_X8_isHour
set_option maxRecDepth 20000 in
theorem ggX8_asks_X8_in : GoodIn wsX8_asks wsX8_in := goodIn_r _ [10] rfl (by decide +kernel)
set_option maxRecDepth 20000 in
theorem gX8_asks_X8_in : GoodIn wsX8_asks (va_wsS RX8 67 yX8_in wsX8_in) := goodIn_app (goodIn_of _ (by decide +kernel)) ggX8_asks_X8_in
set_option maxRecDepth 20000 in
theorem ggX8_asks_X8_shakenMany : GoodIn wsX8_asks wsX8_shakenMany := goodIn_r _ [18, 7, 19, 143, 144, 145, 146, 147, 148, 149, 150, 151, 152, 153, 154, 155, 156, 157, 158, 159, 160, 161, 162, 163, 164, 165, 166, 167, 168, 169, 170, 171, 172, 173, 174, 175, 176, 177, 178, 179, 180, 181, 182, 183, 184, 185, 186] rfl (by decide +kernel)
set_option maxRecDepth 20000 in
theorem gX8_asks_X8_shakenMany : GoodIn wsX8_asks (wsV RX8 252 RX8 yX8_shakenMany wsX8_shakenMany) := goodIn_app (goodIn_of _ (by decide +kernel)) ggX8_asks_X8_shakenMany
set_option maxRecDepth 20000 in
theorem ggX8_asks_X8_needsOf : GoodIn wsX8_asks wsX8_needsOf := goodIn_r _ [23, 24, 19, 25, 26, 27, 5, 28, 29, 30, 31, 32, 33, 34, 35, 36, 37, 38, 39, 40, 41, 42, 43, 44, 45, 46, 47, 48, 49, 50, 51, 52, 53, 54, 55, 56, 57, 58, 59, 60, 61, 62, 63, 64, 65, 66, 67, 68, 8, 9, 10, 69, 70, 71, 72, 73, 74, 75, 76, 77, 78, 79, 80, 81, 82, 83, 84, 85, 86, 87, 88, 89, 90, 91, 92, 93, 94, 95, 96, 97, 98, 99, 100, 101, 102, 103, 104, 105, 106, 107, 108, 109, 110, 111, 112, 113, 114, 115, 116, 117, 118, 119, 120, 121, 122, 123, 124, 125, 126, 143, 144, 145, 146, 147, 148, 149, 150, 151, 152, 153, 154, 155, 156, 157, 158, 159, 160, 161, 162, 163, 164, 165, 166, 167, 168, 169, 170, 171, 172, 173, 174, 175, 176, 177, 178, 179, 180, 181, 182, 183, 184, 185, 186] rfl (by decide +kernel)
set_option maxRecDepth 20000 in
theorem gX8_asks_X8_needsOf : GoodIn wsX8_asks (wsV RX8 239 RX8 yX8_needsOf wsX8_needsOf) := goodIn_app (goodIn_of _ (by decide +kernel)) ggX8_asks_X8_needsOf
set_option maxRecDepth 20000 in
theorem ggX8_asks_X8_takesOf : GoodIn wsX8_asks wsX8_takesOf := goodIn_r _ [130, 24, 19, 25, 26, 27, 5, 28, 29, 30, 31, 32, 33, 34, 35, 36, 37, 38, 39, 40, 41, 42, 43, 44, 45, 46, 47, 48, 49, 50, 51, 52, 53, 54, 55, 56, 57, 58, 59, 60, 61, 62, 63, 64, 65, 66, 67, 68, 8, 9, 10, 69, 70, 71, 72, 73, 74, 75, 76, 77, 78, 79, 80, 81, 82, 83, 84, 85, 86, 87, 88, 89, 90, 91, 92, 93, 94, 95, 96, 97, 98, 99, 100, 101, 102, 103, 104, 105, 106, 107, 108, 109, 110, 111, 112, 113, 114, 115, 116, 117, 118, 119, 120, 121, 122, 123, 124, 125, 126, 143, 144, 145, 146, 147, 148, 149, 150, 151, 152, 153, 154, 155, 156, 157, 158, 159, 160, 161, 162, 163, 164, 165, 166, 167, 168, 169, 170, 171, 172, 173, 174, 175, 176, 177, 178, 179, 180, 181, 182, 183, 184, 185, 186] rfl (by decide +kernel)
set_option maxRecDepth 20000 in
theorem gX8_asks_X8_takesOf : GoodIn wsX8_asks (wsV RX8 242 RX8 yX8_takesOf wsX8_takesOf) := goodIn_app (goodIn_of _ (by decide +kernel)) ggX8_asks_X8_takesOf
set_option maxRecDepth 20000 in
theorem ggX8_asks_X8_holds : GoodIn wsX8_asks wsX8_holds := goodIn_r _ [134, 20, 21, 22, 5, 23, 24, 19, 25, 26, 27, 28, 29, 30, 31, 32, 33, 34, 35, 36, 37, 38, 39, 40, 41, 42, 43, 44, 45, 46, 47, 48, 49, 50, 51, 52, 53, 54, 55, 56, 57, 58, 59, 60, 61, 62, 63, 64, 65, 66, 67, 68, 8, 9, 10, 69, 70, 71, 72, 73, 74, 75, 76, 77, 78, 79, 80, 81, 82, 83, 84, 85, 86, 87, 88, 89, 90, 91, 92, 93, 94, 95, 96, 97, 98, 99, 100, 101, 102, 103, 104, 105, 106, 107, 108, 109, 110, 111, 112, 113, 114, 115, 116, 117, 118, 119, 120, 121, 122, 123, 124, 125, 126, 127, 128, 129, 130, 143, 144, 145, 146, 147, 148, 149, 150, 151, 152, 153, 154, 155, 156, 157, 158, 159, 160, 161, 162, 163, 164, 165, 166, 167, 168, 169, 170, 171, 172, 173, 174, 175, 176, 177, 178, 179, 180, 181, 182, 183, 184, 185, 186] rfl (by decide +kernel)
set_option maxRecDepth 20000 in
theorem gX8_asks_X8_holds : GoodIn wsX8_asks (wsV RX8 245 RX8 yX8_holds wsX8_holds) := goodIn_app (goodIn_of _ (by decide +kernel)) ggX8_asks_X8_holds
set_option maxRecDepth 20000 in
theorem ggX8_asks_X8_worthOf : GoodIn wsX8_asks wsX8_worthOf := goodIn_r _ [138, 24, 19, 25, 26, 27, 5, 28, 29, 30, 31, 32, 33, 34, 35, 36, 37, 38, 39, 40, 41, 42, 43, 44, 45, 46, 47, 48, 49, 50, 51, 52, 53, 54, 55, 56, 57, 58, 59, 60, 61, 62, 63, 64, 65, 66, 67, 68, 8, 9, 10, 69, 70, 71, 72, 73, 74, 75, 76, 77, 78, 79, 80, 81, 82, 83, 84, 85, 86, 87, 88, 89, 90, 91, 92, 93, 94, 95, 96, 97, 98, 99, 100, 101, 102, 103, 104, 105, 106, 107, 108, 109, 110, 111, 112, 113, 114, 115, 116, 117, 118, 119, 120, 121, 122, 123, 124, 125, 126, 143, 144, 145, 146, 147, 148, 149, 150, 151, 152, 153, 154, 155, 156, 157, 158, 159, 160, 161, 162, 163, 164, 165, 166, 167, 168, 169, 170, 171, 172, 173, 174, 175, 176, 177, 178, 179, 180, 181, 182, 183, 184, 185, 186] rfl (by decide +kernel)
set_option maxRecDepth 20000 in
theorem gX8_asks_X8_worthOf : GoodIn wsX8_asks (wsV RX8 255 RX8 yX8_worthOf wsX8_worthOf) := goodIn_app (goodIn_of _ (by decide +kernel)) ggX8_asks_X8_worthOf
set_option maxRecDepth 20000 in
theorem ggX8_asks_X8_shakes : GoodIn wsX8_asks wsX8_shakes := goodIn_r _ [142, 131, 132, 133, 5, 134, 20, 21, 22, 23, 24, 19, 25, 26, 27, 28, 29, 30, 31, 32, 33, 34, 35, 36, 37, 38, 39, 40, 41, 42, 43, 44, 45, 46, 47, 48, 49, 50, 51, 52, 53, 54, 55, 56, 57, 58, 59, 60, 61, 62, 63, 64, 65, 66, 67, 68, 8, 9, 10, 69, 70, 71, 72, 73, 74, 75, 76, 77, 78, 79, 80, 81, 82, 83, 84, 85, 86, 87, 88, 89, 90, 91, 92, 93, 94, 95, 96, 97, 98, 99, 100, 101, 102, 103, 104, 105, 106, 107, 108, 109, 110, 111, 112, 113, 114, 115, 116, 117, 118, 119, 120, 121, 122, 123, 124, 125, 126, 127, 128, 129, 130, 143, 144, 145, 146, 147, 148, 149, 150, 151, 152, 153, 154, 155, 156, 157, 158, 159, 160, 161, 162, 163, 164, 165, 166, 167, 168, 169, 170, 171, 172, 173, 174, 175, 176, 177, 178, 179, 180, 181, 182, 183, 184, 185, 186] rfl (by decide +kernel)
set_option maxRecDepth 20000 in
theorem gX8_asks_X8_shakes : GoodIn wsX8_asks (wsV RX8 258 RX8 yX8_shakes wsX8_shakes) := goodIn_app (goodIn_of _ (by decide +kernel)) ggX8_asks_X8_shakes
theorem dX8_asks_0 : decode cX8_asks 0 = .ok (.aload_n 0, 1) := by decide +kernel
theorem dX8_asks_1 : decode cX8_asks 1 = .ok (.iload_n 1, 1) := by decide +kernel
theorem dX8_asks_2 : decode cX8_asks 2 = .ok (.invokevirtual 75, 3) := by decide +kernel
theorem dX8_asks_5 : decode cX8_asks 5 = .ok (.ifCond .eq 22, 3) := by decide +kernel
theorem dX8_asks_8 : decode cX8_asks 8 = .ok (.iload_n 2, 1) := by decide +kernel
theorem dX8_asks_9 : decode cX8_asks 9 = .ok (.invokestatic 249, 3) := by decide +kernel
theorem dX8_asks_12 : decode cX8_asks 12 = .ok (.ifCond .eq 15, 3) := by decide +kernel
theorem dX8_asks_15 : decode cX8_asks 15 = .ok (.iload_n 3, 1) := by decide +kernel
theorem dX8_asks_16 : decode cX8_asks 16 = .ok (.i2l, 1) := by decide +kernel
theorem dX8_asks_17 : decode cX8_asks 17 = .ok (.lconst 0, 1) := by decide +kernel
theorem dX8_asks_18 : decode cX8_asks 18 = .ok (.ldc2_w 79, 3) := by decide +kernel
theorem dX8_asks_21 : decode cX8_asks 21 = .ok (.invokestatic 67, 3) := by decide +kernel
theorem dX8_asks_24 : decode cX8_asks 24 = .ok (.ifCond .ne 6, 3) := by decide +kernel
theorem dX8_asks_27 : decode cX8_asks 27 = .ok (.bipush (-2), 2) := by decide +kernel
theorem dX8_asks_29 : decode cX8_asks 29 = .ok (.ireturn, 1) := by decide +kernel
theorem dX8_asks_30 : decode cX8_asks 30 = .ok (.aload_n 0, 1) := by decide +kernel
theorem dX8_asks_31 : decode cX8_asks 31 = .ok (.invokevirtual 252, 3) := by decide +kernel
theorem dX8_asks_34 : decode cX8_asks 34 = .ok (.istore 4, 2) := by decide +kernel
theorem dX8_asks_36 : decode cX8_asks 36 = .ok (.iload_n 3, 1) := by decide +kernel
theorem dX8_asks_37 : decode cX8_asks 37 = .ok (.iconst 2, 1) := by decide +kernel
theorem dX8_asks_38 : decode cX8_asks 38 = .ok (.if_icmp .ge 27, 3) := by decide +kernel
theorem dX8_asks_41 : decode cX8_asks 41 = .ok (.iload_n 3, 1) := by decide +kernel
theorem dX8_asks_42 : decode cX8_asks 42 = .ok (.ifCond .ne 14, 3) := by decide +kernel
theorem dX8_asks_45 : decode cX8_asks 45 = .ok (.aload_n 0, 1) := by decide +kernel
theorem dX8_asks_46 : decode cX8_asks 46 = .ok (.iload_n 1, 1) := by decide +kernel
theorem dX8_asks_47 : decode cX8_asks 47 = .ok (.iload_n 2, 1) := by decide +kernel
theorem dX8_asks_48 : decode cX8_asks 48 = .ok (.iload 4, 2) := by decide +kernel
theorem dX8_asks_50 : decode cX8_asks 50 = .ok (.invokevirtual 239, 3) := by decide +kernel
theorem dX8_asks_53 : decode cX8_asks 53 = .ok (.goto 11, 3) := by decide +kernel
theorem dX8_asks_56 : decode cX8_asks 56 = .ok (.aload_n 0, 1) := by decide +kernel
theorem dX8_asks_57 : decode cX8_asks 57 = .ok (.iload_n 1, 1) := by decide +kernel
theorem dX8_asks_58 : decode cX8_asks 58 = .ok (.iload_n 2, 1) := by decide +kernel
theorem dX8_asks_59 : decode cX8_asks 59 = .ok (.iload 4, 2) := by decide +kernel
theorem dX8_asks_61 : decode cX8_asks 61 = .ok (.invokevirtual 242, 3) := by decide +kernel
theorem dX8_asks_64 : decode cX8_asks 64 = .ok (.ireturn, 1) := by decide +kernel
theorem dX8_asks_65 : decode cX8_asks 65 = .ok (.iload_n 3, 1) := by decide +kernel
theorem dX8_asks_66 : decode cX8_asks 66 = .ok (.iconst 2, 1) := by decide +kernel
theorem dX8_asks_67 : decode cX8_asks 67 = .ok (.if_icmp .ne 22, 3) := by decide +kernel
theorem dX8_asks_70 : decode cX8_asks 70 = .ok (.aload_n 0, 1) := by decide +kernel
theorem dX8_asks_71 : decode cX8_asks 71 = .ok (.iload_n 1, 1) := by decide +kernel
theorem dX8_asks_72 : decode cX8_asks 72 = .ok (.iload_n 2, 1) := by decide +kernel
theorem dX8_asks_73 : decode cX8_asks 73 = .ok (.iload 4, 2) := by decide +kernel
theorem dX8_asks_75 : decode cX8_asks 75 = .ok (.invokevirtual 245, 3) := by decide +kernel
theorem dX8_asks_78 : decode cX8_asks 78 = .ok (.ifCond .eq 7, 3) := by decide +kernel
theorem dX8_asks_81 : decode cX8_asks 81 = .ok (.iconst 1, 1) := by decide +kernel
theorem dX8_asks_82 : decode cX8_asks 82 = .ok (.goto 31, 3) := by decide +kernel
theorem dX8_asks_85 : decode cX8_asks 85 = .ok (.iconst 0, 1) := by decide +kernel
theorem dX8_asks_86 : decode cX8_asks 86 = .ok (.goto 27, 3) := by decide +kernel
theorem dX8_asks_89 : decode cX8_asks 89 = .ok (.iload_n 3, 1) := by decide +kernel
theorem dX8_asks_90 : decode cX8_asks 90 = .ok (.iconst 3, 1) := by decide +kernel
theorem dX8_asks_91 : decode cX8_asks 91 = .ok (.if_icmp .ne 14, 3) := by decide +kernel
theorem dX8_asks_94 : decode cX8_asks 94 = .ok (.aload_n 0, 1) := by decide +kernel
theorem dX8_asks_95 : decode cX8_asks 95 = .ok (.iload_n 1, 1) := by decide +kernel
theorem dX8_asks_96 : decode cX8_asks 96 = .ok (.iload_n 2, 1) := by decide +kernel
theorem dX8_asks_97 : decode cX8_asks 97 = .ok (.iload 4, 2) := by decide +kernel
theorem dX8_asks_99 : decode cX8_asks 99 = .ok (.invokevirtual 255, 3) := by decide +kernel
theorem dX8_asks_102 : decode cX8_asks 102 = .ok (.goto 11, 3) := by decide +kernel
theorem dX8_asks_105 : decode cX8_asks 105 = .ok (.aload_n 0, 1) := by decide +kernel
theorem dX8_asks_106 : decode cX8_asks 106 = .ok (.iload_n 1, 1) := by decide +kernel
theorem dX8_asks_107 : decode cX8_asks 107 = .ok (.iload_n 2, 1) := by decide +kernel
theorem dX8_asks_108 : decode cX8_asks 108 = .ok (.iload 4, 2) := by decide +kernel
theorem dX8_asks_110 : decode cX8_asks 110 = .ok (.invokevirtual 258, 3) := by decide +kernel
theorem dX8_asks_113 : decode cX8_asks 113 = .ok (.ireturn, 1) := by decide +kernel
theorem dX8_begins_0 : decode cX8_begins 0 = .ok (.aload_n 0, 1) := by decide +kernel
theorem dX8_begins_1 : decode cX8_begins 1 = .ok (.iconst 0, 1) := by decide +kernel
theorem dX8_begins_2 : decode cX8_begins 2 = .ok (.putfield 261, 3) := by decide +kernel
theorem dX8_begins_5 : decode cX8_begins 5 = .ok (.aload_n 0, 1) := by decide +kernel
theorem dX8_begins_6 : decode cX8_begins 6 = .ok (.iconst 0, 1) := by decide +kernel
theorem dX8_begins_7 : decode cX8_begins 7 = .ok (.putfield 264, 3) := by decide +kernel
theorem dX8_begins_10 : decode cX8_begins 10 = .ok (.aload_n 0, 1) := by decide +kernel
theorem dX8_begins_11 : decode cX8_begins 11 = .ok (.iconst (-1), 1) := by decide +kernel
theorem dX8_begins_12 : decode cX8_begins 12 = .ok (.putfield 267, 3) := by decide +kernel
theorem dX8_begins_15 : decode cX8_begins 15 = .ok (.aload_n 0, 1) := by decide +kernel
theorem dX8_begins_16 : decode cX8_begins 16 = .ok (.iconst 0, 1) := by decide +kernel
theorem dX8_begins_17 : decode cX8_begins 17 = .ok (.putfield 270, 3) := by decide +kernel
theorem dX8_begins_20 : decode cX8_begins 20 = .ok (.aload_n 0, 1) := by decide +kernel
theorem dX8_begins_21 : decode cX8_begins 21 = .ok (.iconst 0, 1) := by decide +kernel
theorem dX8_begins_22 : decode cX8_begins 22 = .ok (.putfield 273, 3) := by decide +kernel
theorem dX8_begins_25 : decode cX8_begins 25 = .ok (.return_, 1) := by decide +kernel
set_option maxRecDepth 20000 in
theorem ggX8_deals_X8_shakenMany : GoodIn wsX8_deals wsX8_shakenMany := goodIn_r _ [10, 11, 12, 139, 140, 141, 142, 143, 144, 145, 146, 147, 148, 149, 150, 151, 152, 153, 154, 155, 156, 157, 158, 159, 160, 161, 162, 163, 164, 165, 166, 167, 168, 169, 170, 171, 172, 173, 174, 175, 176, 177, 178, 179, 180, 181, 182] rfl (by decide +kernel)
set_option maxRecDepth 20000 in
theorem gX8_deals_X8_shakenMany : GoodIn wsX8_deals (wsV RX8 252 RX8 yX8_shakenMany wsX8_shakenMany) := goodIn_app (goodIn_of _ (by decide +kernel)) ggX8_deals_X8_shakenMany
set_option maxRecDepth 20000 in
theorem ggX8_deals_X8_shakes : GoodIn wsX8_deals wsX8_shakes := goodIn_r _ [16, 17, 18, 19, 9, 20, 21, 22, 23, 24, 25, 12, 26, 27, 28, 29, 30, 31, 32, 33, 34, 35, 36, 37, 38, 39, 40, 41, 42, 43, 44, 45, 46, 47, 48, 49, 50, 51, 52, 53, 54, 55, 56, 57, 58, 59, 60, 61, 62, 63, 64, 65, 66, 67, 68, 69, 70, 71, 72, 73, 74, 75, 76, 77, 78, 79, 80, 81, 82, 83, 84, 85, 86, 87, 88, 89, 90, 91, 92, 93, 94, 95, 96, 97, 98, 99, 100, 101, 102, 103, 104, 105, 106, 107, 108, 109, 110, 111, 112, 113, 114, 115, 116, 117, 118, 119, 120, 121, 122, 123, 124, 125, 126, 127, 128, 129, 130, 131, 132, 133, 134, 139, 140, 141, 142, 143, 144, 145, 146, 147, 148, 149, 150, 151, 152, 153, 154, 155, 156, 157, 158, 159, 160, 161, 162, 163, 164, 165, 166, 167, 168, 169, 170, 171, 172, 173, 174, 175, 176, 177, 178, 179, 180, 181, 182] rfl (by decide +kernel)
set_option maxRecDepth 20000 in
theorem gX8_deals_X8_shakes : GoodIn wsX8_deals (wsV RX8 258 RX8 yX8_shakes wsX8_shakes) := goodIn_app (goodIn_of _ (by decide +kernel)) ggX8_deals_X8_shakes
set_option maxRecDepth 20000 in
theorem ggX8_deals_X8_worthOf : GoodIn wsX8_deals wsX8_worthOf := goodIn_r _ [138, 25, 12, 26, 27, 28, 9, 29, 30, 31, 32, 33, 34, 35, 36, 37, 38, 39, 40, 41, 42, 43, 44, 45, 46, 47, 48, 49, 50, 51, 52, 53, 54, 55, 56, 57, 58, 59, 60, 61, 62, 63, 64, 65, 66, 67, 68, 69, 70, 71, 72, 73, 74, 75, 76, 77, 78, 79, 80, 81, 82, 83, 84, 85, 86, 87, 88, 89, 90, 91, 92, 93, 94, 95, 96, 97, 98, 99, 100, 101, 102, 103, 104, 105, 106, 107, 108, 109, 110, 111, 112, 113, 114, 115, 116, 117, 118, 119, 120, 121, 122, 123, 124, 125, 126, 127, 128, 129, 130, 139, 140, 141, 142, 143, 144, 145, 146, 147, 148, 149, 150, 151, 152, 153, 154, 155, 156, 157, 158, 159, 160, 161, 162, 163, 164, 165, 166, 167, 168, 169, 170, 171, 172, 173, 174, 175, 176, 177, 178, 179, 180, 181, 182] rfl (by decide +kernel)
set_option maxRecDepth 20000 in
theorem gX8_deals_X8_worthOf : GoodIn wsX8_deals (wsV RX8 255 RX8 yX8_worthOf wsX8_worthOf) := goodIn_app (goodIn_of _ (by decide +kernel)) ggX8_deals_X8_worthOf
theorem dX8_deals_0 : decode cX8_deals 0 = .ok (.aload_n 0, 1) := by decide +kernel
theorem dX8_deals_1 : decode cX8_deals 1 = .ok (.invokevirtual 252, 3) := by decide +kernel
theorem dX8_deals_4 : decode cX8_deals 4 = .ok (.aload_n 0, 1) := by decide +kernel
theorem dX8_deals_5 : decode cX8_deals 5 = .ok (.getfield 264, 3) := by decide +kernel
theorem dX8_deals_8 : decode cX8_deals 8 = .ok (.iadd, 1) := by decide +kernel
theorem dX8_deals_9 : decode cX8_deals 9 = .ok (.istore_n 2, 1) := by decide +kernel
theorem dX8_deals_10 : decode cX8_deals 10 = .ok (.aload_n 0, 1) := by decide +kernel
theorem dX8_deals_11 : decode cX8_deals 11 = .ok (.iload_n 1, 1) := by decide +kernel
theorem dX8_deals_12 : decode cX8_deals 12 = .ok (.aload_n 0, 1) := by decide +kernel
theorem dX8_deals_13 : decode cX8_deals 13 = .ok (.getfield 267, 3) := by decide +kernel
theorem dX8_deals_16 : decode cX8_deals 16 = .ok (.iconst 1, 1) := by decide +kernel
theorem dX8_deals_17 : decode cX8_deals 17 = .ok (.iadd, 1) := by decide +kernel
theorem dX8_deals_18 : decode cX8_deals 18 = .ok (.iload_n 2, 1) := by decide +kernel
theorem dX8_deals_19 : decode cX8_deals 19 = .ok (.invokevirtual 258, 3) := by decide +kernel
theorem dX8_deals_22 : decode cX8_deals 22 = .ok (.istore_n 3, 1) := by decide +kernel
theorem dX8_deals_23 : decode cX8_deals 23 = .ok (.iload_n 3, 1) := by decide +kernel
theorem dX8_deals_24 : decode cX8_deals 24 = .ok (.iconst (-1), 1) := by decide +kernel
theorem dX8_deals_25 : decode cX8_deals 25 = .ok (.if_icmp .ne 18, 3) := by decide +kernel
theorem dX8_deals_28 : decode cX8_deals 28 = .ok (.aload_n 0, 1) := by decide +kernel
theorem dX8_deals_29 : decode cX8_deals 29 = .ok (.dup, 1) := by decide +kernel
theorem dX8_deals_30 : decode cX8_deals 30 = .ok (.getfield 270, 3) := by decide +kernel
theorem dX8_deals_33 : decode cX8_deals 33 = .ok (.iconst 1, 1) := by decide +kernel
theorem dX8_deals_34 : decode cX8_deals 34 = .ok (.iload_n 1, 1) := by decide +kernel
theorem dX8_deals_35 : decode cX8_deals 35 = .ok (.ishl, 1) := by decide +kernel
theorem dX8_deals_36 : decode cX8_deals 36 = .ok (.ior, 1) := by decide +kernel
theorem dX8_deals_37 : decode cX8_deals 37 = .ok (.putfield 270, 3) := by decide +kernel
theorem dX8_deals_40 : decode cX8_deals 40 = .ok (.goto 46, 3) := by decide +kernel
theorem dX8_deals_43 : decode cX8_deals 43 = .ok (.aload_n 0, 1) := by decide +kernel
theorem dX8_deals_44 : decode cX8_deals 44 = .ok (.dup, 1) := by decide +kernel
theorem dX8_deals_45 : decode cX8_deals 45 = .ok (.getfield 261, 3) := by decide +kernel
theorem dX8_deals_48 : decode cX8_deals 48 = .ok (.aload_n 0, 1) := by decide +kernel
theorem dX8_deals_49 : decode cX8_deals 49 = .ok (.iload_n 1, 1) := by decide +kernel
theorem dX8_deals_50 : decode cX8_deals 50 = .ok (.iload_n 3, 1) := by decide +kernel
theorem dX8_deals_51 : decode cX8_deals 51 = .ok (.iload_n 2, 1) := by decide +kernel
theorem dX8_deals_52 : decode cX8_deals 52 = .ok (.invokevirtual 255, 3) := by decide +kernel
theorem dX8_deals_55 : decode cX8_deals 55 = .ok (.iadd, 1) := by decide +kernel
theorem dX8_deals_56 : decode cX8_deals 56 = .ok (.putfield 261, 3) := by decide +kernel
theorem dX8_deals_59 : decode cX8_deals 59 = .ok (.aload_n 0, 1) := by decide +kernel
theorem dX8_deals_60 : decode cX8_deals 60 = .ok (.iload_n 3, 1) := by decide +kernel
theorem dX8_deals_61 : decode cX8_deals 61 = .ok (.putfield 267, 3) := by decide +kernel
theorem dX8_deals_64 : decode cX8_deals 64 = .ok (.aload_n 0, 1) := by decide +kernel
theorem dX8_deals_65 : decode cX8_deals 65 = .ok (.dup, 1) := by decide +kernel
theorem dX8_deals_66 : decode cX8_deals 66 = .ok (.getfield 264, 3) := by decide +kernel
theorem dX8_deals_69 : decode cX8_deals 69 = .ok (.iconst 1, 1) := by decide +kernel
theorem dX8_deals_70 : decode cX8_deals 70 = .ok (.iadd, 1) := by decide +kernel
theorem dX8_deals_71 : decode cX8_deals 71 = .ok (.putfield 264, 3) := by decide +kernel
theorem dX8_deals_74 : decode cX8_deals 74 = .ok (.aload_n 0, 1) := by decide +kernel
theorem dX8_deals_75 : decode cX8_deals 75 = .ok (.dup, 1) := by decide +kernel
theorem dX8_deals_76 : decode cX8_deals 76 = .ok (.getfield 273, 3) := by decide +kernel
theorem dX8_deals_79 : decode cX8_deals 79 = .ok (.iconst 1, 1) := by decide +kernel
theorem dX8_deals_80 : decode cX8_deals 80 = .ok (.iload_n 1, 1) := by decide +kernel
theorem dX8_deals_81 : decode cX8_deals 81 = .ok (.ishl, 1) := by decide +kernel
theorem dX8_deals_82 : decode cX8_deals 82 = .ok (.ior, 1) := by decide +kernel
theorem dX8_deals_83 : decode cX8_deals 83 = .ok (.putfield 273, 3) := by decide +kernel
theorem dX8_deals_86 : decode cX8_deals 86 = .ok (.return_, 1) := by decide +kernel
set_option maxRecDepth 20000 in
theorem ggX8_tourBad_X8_isOne : GoodIn wsX8_tourBad wsX8_isOne := goodIn_r _ [8, 9, 10, 11, 7, 12, 18, 19, 20, 21, 22, 23, 24, 25, 26, 27, 28, 29, 30, 31, 32, 33, 34, 35, 36, 37, 38, 39, 40, 41, 42, 43, 44, 45, 46, 47, 48, 49, 50, 51, 52, 53, 54, 55, 56, 57, 58, 59, 60, 61] rfl (by decide +kernel)
set_option maxRecDepth 20000 in
theorem gX8_tourBad_X8_isOne : GoodIn wsX8_tourBad (wsV RX8 75 RX8 yX8_isOne wsX8_isOne) := goodIn_app (goodIn_of _ (by decide +kernel)) ggX8_tourBad_X8_isOne
set_option maxRecDepth 20000 in
theorem ggX8_tourBad_X8_isShaken : GoodIn wsX8_tourBad wsX8_isShaken := goodIn_r _ [16, 17, 18, 19, 20, 21, 22, 23, 24, 25, 26, 27, 28, 29, 30, 31, 32, 33, 34, 35, 36, 37, 38, 39, 40, 41, 42, 43, 44, 45, 46, 47, 48, 49, 50, 51, 52, 53, 54, 55, 56, 57, 58, 59, 60, 61] rfl (by decide +kernel)
set_option maxRecDepth 20000 in
theorem gX8_tourBad_X8_isShaken : GoodIn wsX8_tourBad (wsV RX8 276 RX8 yX8_isShaken wsX8_isShaken) := goodIn_app (goodIn_of _ (by decide +kernel)) ggX8_tourBad_X8_isShaken
theorem dX8_tourBad_0 : decode cX8_tourBad 0 = .ok (.aload_n 0, 1) := by decide +kernel
theorem dX8_tourBad_1 : decode cX8_tourBad 1 = .ok (.getfield 44, 3) := by decide +kernel
theorem dX8_tourBad_4 : decode cX8_tourBad 4 = .ok (.iload_n 1, 1) := by decide +kernel
theorem dX8_tourBad_5 : decode cX8_tourBad 5 = .ok (.baload, 1) := by decide +kernel
theorem dX8_tourBad_6 : decode cX8_tourBad 6 = .ok (.ifCond .ne 6, 3) := by decide +kernel
theorem dX8_tourBad_9 : decode cX8_tourBad 9 = .ok (.bipush (-11), 2) := by decide +kernel
theorem dX8_tourBad_11 : decode cX8_tourBad 11 = .ok (.ireturn, 1) := by decide +kernel
theorem dX8_tourBad_12 : decode cX8_tourBad 12 = .ok (.iconst 0, 1) := by decide +kernel
theorem dX8_tourBad_13 : decode cX8_tourBad 13 = .ok (.istore_n 2, 1) := by decide +kernel
theorem dX8_tourBad_14 : decode cX8_tourBad 14 = .ok (.iconst 0, 1) := by decide +kernel
theorem dX8_tourBad_15 : decode cX8_tourBad 15 = .ok (.istore_n 3, 1) := by decide +kernel
theorem dX8_tourBad_16 : decode cX8_tourBad 16 = .ok (.iload_n 3, 1) := by decide +kernel
theorem dX8_tourBad_17 : decode cX8_tourBad 17 = .ok (.aload_n 0, 1) := by decide +kernel
theorem dX8_tourBad_18 : decode cX8_tourBad 18 = .ok (.getfield 51, 3) := by decide +kernel
theorem dX8_tourBad_21 : decode cX8_tourBad 21 = .ok (.iload_n 1, 1) := by decide +kernel
theorem dX8_tourBad_22 : decode cX8_tourBad 22 = .ok (.iaload, 1) := by decide +kernel
theorem dX8_tourBad_23 : decode cX8_tourBad 23 = .ok (.if_icmp .ge 60, 3) := by decide +kernel
theorem dX8_tourBad_26 : decode cX8_tourBad 26 = .ok (.aload_n 0, 1) := by decide +kernel
theorem dX8_tourBad_27 : decode cX8_tourBad 27 = .ok (.getfield 54, 3) := by decide +kernel
theorem dX8_tourBad_30 : decode cX8_tourBad 30 = .ok (.bipush 40, 2) := by decide +kernel
theorem dX8_tourBad_32 : decode cX8_tourBad 32 = .ok (.iload_n 1, 1) := by decide +kernel
theorem dX8_tourBad_33 : decode cX8_tourBad 33 = .ok (.imul, 1) := by decide +kernel
theorem dX8_tourBad_34 : decode cX8_tourBad 34 = .ok (.iload_n 3, 1) := by decide +kernel
theorem dX8_tourBad_35 : decode cX8_tourBad 35 = .ok (.iadd, 1) := by decide +kernel
theorem dX8_tourBad_36 : decode cX8_tourBad 36 = .ok (.iaload, 1) := by decide +kernel
theorem dX8_tourBad_37 : decode cX8_tourBad 37 = .ok (.istore 4, 2) := by decide +kernel
theorem dX8_tourBad_39 : decode cX8_tourBad 39 = .ok (.aload_n 0, 1) := by decide +kernel
theorem dX8_tourBad_40 : decode cX8_tourBad 40 = .ok (.iload 4, 2) := by decide +kernel
theorem dX8_tourBad_42 : decode cX8_tourBad 42 = .ok (.invokevirtual 75, 3) := by decide +kernel
theorem dX8_tourBad_45 : decode cX8_tourBad 45 = .ok (.ifCond .eq 22, 3) := by decide +kernel
theorem dX8_tourBad_48 : decode cX8_tourBad 48 = .ok (.aload_n 0, 1) := by decide +kernel
theorem dX8_tourBad_49 : decode cX8_tourBad 49 = .ok (.iload 4, 2) := by decide +kernel
theorem dX8_tourBad_51 : decode cX8_tourBad 51 = .ok (.invokevirtual 276, 3) := by decide +kernel
theorem dX8_tourBad_54 : decode cX8_tourBad 54 = .ok (.ifCond .ne 13, 3) := by decide +kernel
theorem dX8_tourBad_57 : decode cX8_tourBad 57 = .ok (.iload_n 2, 1) := by decide +kernel
theorem dX8_tourBad_58 : decode cX8_tourBad 58 = .ok (.iload 4, 2) := by decide +kernel
theorem dX8_tourBad_60 : decode cX8_tourBad 60 = .ok (.ishr, 1) := by decide +kernel
theorem dX8_tourBad_61 : decode cX8_tourBad 61 = .ok (.iconst 1, 1) := by decide +kernel
theorem dX8_tourBad_62 : decode cX8_tourBad 62 = .ok (.iand, 1) := by decide +kernel
theorem dX8_tourBad_63 : decode cX8_tourBad 63 = .ok (.iconst 1, 1) := by decide +kernel
theorem dX8_tourBad_64 : decode cX8_tourBad 64 = .ok (.if_icmp .ne 6, 3) := by decide +kernel
theorem dX8_tourBad_67 : decode cX8_tourBad 67 = .ok (.bipush (-2), 2) := by decide +kernel
theorem dX8_tourBad_69 : decode cX8_tourBad 69 = .ok (.ireturn, 1) := by decide +kernel
theorem dX8_tourBad_70 : decode cX8_tourBad 70 = .ok (.iload_n 2, 1) := by decide +kernel
theorem dX8_tourBad_71 : decode cX8_tourBad 71 = .ok (.iconst 1, 1) := by decide +kernel
theorem dX8_tourBad_72 : decode cX8_tourBad 72 = .ok (.iload 4, 2) := by decide +kernel
theorem dX8_tourBad_74 : decode cX8_tourBad 74 = .ok (.ishl, 1) := by decide +kernel
theorem dX8_tourBad_75 : decode cX8_tourBad 75 = .ok (.ior, 1) := by decide +kernel
theorem dX8_tourBad_76 : decode cX8_tourBad 76 = .ok (.istore_n 2, 1) := by decide +kernel
theorem dX8_tourBad_77 : decode cX8_tourBad 77 = .ok (.iinc 3 1, 3) := by decide +kernel
theorem dX8_tourBad_80 : decode cX8_tourBad 80 = .ok (.goto (-64), 3) := by decide +kernel
theorem dX8_tourBad_83 : decode cX8_tourBad 83 = .ok (.iconst 0, 1) := by decide +kernel
theorem dX8_tourBad_84 : decode cX8_tourBad 84 = .ok (.ireturn, 1) := by decide +kernel
set_option maxRecDepth 20000 in
theorem ggX8_goes_X8_begins : GoodIn wsX8_goes wsX8_begins := goodIn_r _ [7, 8, 9, 10, 11, 12, 149, 150, 151, 152, 153, 154, 155, 156, 157, 158, 159, 160, 161, 162, 163, 164, 165, 166, 167, 168, 169, 170, 171, 172, 173, 174, 175, 176, 177, 178, 179, 180, 181, 182, 183, 184, 185, 186, 187, 188, 189, 190, 191, 192] rfl (by decide +kernel)
set_option maxRecDepth 20000 in
theorem gX8_goes_X8_begins : GoodIn wsX8_goes (wsV RX8 279 RX8 yX8_begins wsX8_begins) := goodIn_app (goodIn_of _ (by decide +kernel)) ggX8_goes_X8_begins
set_option maxRecDepth 20000 in
theorem ggX8_goes_X8_deals : GoodIn wsX8_goes wsX8_deals := goodIn_r _ [16, 9, 10, 11, 8, 12, 17, 18, 19, 6, 20, 21, 22, 23, 24, 25, 26, 27, 28, 29, 30, 31, 32, 33, 34, 35, 36, 37, 38, 39, 40, 41, 42, 43, 44, 45, 46, 47, 48, 49, 50, 51, 52, 53, 54, 55, 56, 57, 58, 59, 60, 61, 62, 63, 64, 65, 66, 67, 68, 69, 70, 71, 72, 73, 74, 75, 76, 77, 78, 79, 80, 81, 82, 83, 84, 85, 86, 87, 88, 89, 90, 91, 92, 93, 94, 95, 96, 97, 98, 99, 100, 101, 102, 103, 104, 105, 106, 107, 108, 109, 110, 111, 112, 113, 114, 115, 116, 117, 118, 119, 120, 121, 122, 123, 124, 125, 126, 127, 128, 129, 130, 131, 132, 133, 134, 135, 136, 137, 138, 139, 140, 141, 142, 143, 144, 145, 146, 147, 148, 149, 150, 151, 152, 153, 154, 155, 156, 157, 158, 159, 160, 161, 162, 163, 164, 165, 166, 167, 168, 169, 170, 171, 172, 173, 174, 175, 176, 177, 178, 179, 180, 181, 182, 183, 184, 185, 186, 187, 188, 189, 190, 191, 192] rfl (by decide +kernel)
set_option maxRecDepth 20000 in
theorem gX8_goes_X8_deals : GoodIn wsX8_goes (wsV RX8 282 RX8 yX8_deals wsX8_deals) := goodIn_app (goodIn_of _ (by decide +kernel)) ggX8_goes_X8_deals
theorem dX8_goes_0 : decode cX8_goes 0 = .ok (.aload_n 0, 1) := by decide +kernel
theorem dX8_goes_1 : decode cX8_goes 1 = .ok (.invokevirtual 279, 3) := by decide +kernel
theorem dX8_goes_4 : decode cX8_goes 4 = .ok (.iconst 0, 1) := by decide +kernel
theorem dX8_goes_5 : decode cX8_goes 5 = .ok (.istore_n 2, 1) := by decide +kernel
theorem dX8_goes_6 : decode cX8_goes 6 = .ok (.iload_n 2, 1) := by decide +kernel
theorem dX8_goes_7 : decode cX8_goes 7 = .ok (.aload_n 0, 1) := by decide +kernel
theorem dX8_goes_8 : decode cX8_goes 8 = .ok (.getfield 51, 3) := by decide +kernel
theorem dX8_goes_11 : decode cX8_goes 11 = .ok (.iload_n 1, 1) := by decide +kernel
theorem dX8_goes_12 : decode cX8_goes 12 = .ok (.iaload, 1) := by decide +kernel
theorem dX8_goes_13 : decode cX8_goes 13 = .ok (.if_icmp .ge 24, 3) := by decide +kernel
theorem dX8_goes_16 : decode cX8_goes 16 = .ok (.aload_n 0, 1) := by decide +kernel
theorem dX8_goes_17 : decode cX8_goes 17 = .ok (.aload_n 0, 1) := by decide +kernel
theorem dX8_goes_18 : decode cX8_goes 18 = .ok (.getfield 54, 3) := by decide +kernel
theorem dX8_goes_21 : decode cX8_goes 21 = .ok (.bipush 40, 2) := by decide +kernel
theorem dX8_goes_23 : decode cX8_goes 23 = .ok (.iload_n 1, 1) := by decide +kernel
theorem dX8_goes_24 : decode cX8_goes 24 = .ok (.imul, 1) := by decide +kernel
theorem dX8_goes_25 : decode cX8_goes 25 = .ok (.iload_n 2, 1) := by decide +kernel
theorem dX8_goes_26 : decode cX8_goes 26 = .ok (.iadd, 1) := by decide +kernel
theorem dX8_goes_27 : decode cX8_goes 27 = .ok (.iaload, 1) := by decide +kernel
theorem dX8_goes_28 : decode cX8_goes 28 = .ok (.invokevirtual 282, 3) := by decide +kernel
theorem dX8_goes_31 : decode cX8_goes 31 = .ok (.iinc 2 1, 3) := by decide +kernel
theorem dX8_goes_34 : decode cX8_goes 34 = .ok (.goto (-28), 3) := by decide +kernel
theorem dX8_goes_37 : decode cX8_goes 37 = .ok (.return_, 1) := by decide +kernel
set_option maxRecDepth 20000 in
theorem ggX8_tour_X8_isSheet : GoodIn wsX8_tour wsX8_isSheet := goodIn_r _ [9, 1, 10, 11, 8, 12] rfl (by decide +kernel)
set_option maxRecDepth 20000 in
theorem gX8_tour_X8_isSheet : GoodIn wsX8_tour (va_wsS RX8 286 yX8_isSheet wsX8_isSheet) := goodIn_app (goodIn_of _ (by decide +kernel)) ggX8_tour_X8_isSheet
set_option maxRecDepth 20000 in
theorem ggX8_tour_X8_in : GoodIn wsX8_tour wsX8_in := goodIn_r _ [12] rfl (by decide +kernel)
set_option maxRecDepth 20000 in
theorem gX8_tour_X8_in : GoodIn wsX8_tour (va_wsS RX8 67 yX8_in wsX8_in) := goodIn_app (goodIn_of _ (by decide +kernel)) ggX8_tour_X8_in
set_option maxRecDepth 20000 in
theorem ggX8_tour_X8_tourBad : GoodIn wsX8_tour wsX8_tourBad := goodIn_r _ [16, 17, 18, 19, 20, 21, 22, 8, 23, 24, 10, 11, 12, 25, 26, 27, 28, 29, 170, 171, 172, 173, 174, 175, 176, 177, 178, 179, 180, 181, 182, 183, 184, 185, 186, 187, 188, 189, 190, 191, 192, 193, 194, 195, 196, 197, 198, 199, 200, 201, 202, 203, 204, 205, 206, 207, 208, 209, 210, 211, 212, 213] rfl (by decide +kernel)
set_option maxRecDepth 20000 in
theorem gX8_tour_X8_tourBad : GoodIn wsX8_tour (wsV RX8 291 RX8 yX8_tourBad wsX8_tourBad) := goodIn_app (goodIn_of _ (by decide +kernel)) ggX8_tour_X8_tourBad
set_option maxRecDepth 20000 in
theorem ggX8_tour_X8_goes : GoodIn wsX8_tour wsX8_goes := goodIn_r _ [33, 18, 19, 34, 35, 36, 8, 37, 2, 3, 4, 5, 38, 39, 40, 41, 42, 43, 44, 45, 46, 24, 29, 47, 48, 49, 50, 51, 52, 53, 54, 55, 56, 57, 58, 59, 60, 61, 62, 63, 64, 65, 66, 67, 68, 69, 70, 71, 72, 73, 74, 75, 76, 77, 78, 79, 80, 81, 82, 83, 84, 85, 86, 87, 88, 89, 90, 91, 92, 93, 94, 95, 96, 97, 98, 99, 100, 101, 102, 103, 10, 11, 12, 104, 105, 106, 107, 108, 109, 110, 111, 112, 113, 114, 115, 116, 117, 118, 119, 120, 121, 122, 123, 124, 125, 126, 127, 128, 129, 130, 131, 132, 133, 134, 135, 136, 137, 138, 139, 140, 141, 142, 143, 144, 145, 146, 147, 148, 149, 150, 151, 152, 153, 154, 155, 156, 157, 158, 159, 160, 161, 162, 163, 164, 165, 166, 167, 168, 169, 170, 171, 172, 173, 174, 175, 176, 177, 178, 179, 180, 181, 182, 183, 184, 185, 186, 187, 188, 189, 190, 191, 192, 193, 194, 195, 196, 197, 198, 199, 200, 201, 202, 203, 204, 205, 206, 207, 208, 209, 210, 211, 212, 213] rfl (by decide +kernel)
set_option maxRecDepth 20000 in
theorem gX8_tour_X8_goes : GoodIn wsX8_tour (wsV RX8 294 RX8 yX8_goes wsX8_goes) := goodIn_app (goodIn_of _ (by decide +kernel)) ggX8_tour_X8_goes
theorem dX8_tour_0 : decode cX8_tour 0 = .ok (.iload_n 1, 1) := by decide +kernel
theorem dX8_tour_1 : decode cX8_tour 1 = .ok (.invokestatic 286, 3) := by decide +kernel
theorem dX8_tour_4 : decode cX8_tour 4 = .ok (.ifCond .eq 15, 3) := by decide +kernel
theorem dX8_tour_7 : decode cX8_tour 7 = .ok (.iload_n 2, 1) := by decide +kernel
theorem dX8_tour_8 : decode cX8_tour 8 = .ok (.i2l, 1) := by decide +kernel
theorem dX8_tour_9 : decode cX8_tour 9 = .ok (.lconst 0, 1) := by decide +kernel
theorem dX8_tour_10 : decode cX8_tour 10 = .ok (.ldc2_w 289, 3) := by decide +kernel
theorem dX8_tour_13 : decode cX8_tour 13 = .ok (.invokestatic 67, 3) := by decide +kernel
theorem dX8_tour_16 : decode cX8_tour 16 = .ok (.ifCond .ne 6, 3) := by decide +kernel
theorem dX8_tour_19 : decode cX8_tour 19 = .ok (.bipush (-2), 2) := by decide +kernel
theorem dX8_tour_21 : decode cX8_tour 21 = .ok (.ireturn, 1) := by decide +kernel
theorem dX8_tour_22 : decode cX8_tour 22 = .ok (.aload_n 0, 1) := by decide +kernel
theorem dX8_tour_23 : decode cX8_tour 23 = .ok (.iload_n 1, 1) := by decide +kernel
theorem dX8_tour_24 : decode cX8_tour 24 = .ok (.invokevirtual 291, 3) := by decide +kernel
theorem dX8_tour_27 : decode cX8_tour 27 = .ok (.istore_n 3, 1) := by decide +kernel
theorem dX8_tour_28 : decode cX8_tour 28 = .ok (.iload_n 3, 1) := by decide +kernel
theorem dX8_tour_29 : decode cX8_tour 29 = .ok (.ifCond .eq 5, 3) := by decide +kernel
theorem dX8_tour_32 : decode cX8_tour 32 = .ok (.iload_n 3, 1) := by decide +kernel
theorem dX8_tour_33 : decode cX8_tour 33 = .ok (.ireturn, 1) := by decide +kernel
theorem dX8_tour_34 : decode cX8_tour 34 = .ok (.aload_n 0, 1) := by decide +kernel
theorem dX8_tour_35 : decode cX8_tour 35 = .ok (.iload_n 1, 1) := by decide +kernel
theorem dX8_tour_36 : decode cX8_tour 36 = .ok (.invokevirtual 294, 3) := by decide +kernel
theorem dX8_tour_39 : decode cX8_tour 39 = .ok (.iload_n 2, 1) := by decide +kernel
theorem dX8_tour_40 : decode cX8_tour 40 = .ok (.ifCond .ne 10, 3) := by decide +kernel
theorem dX8_tour_43 : decode cX8_tour 43 = .ok (.aload_n 0, 1) := by decide +kernel
theorem dX8_tour_44 : decode cX8_tour 44 = .ok (.getfield 261, 3) := by decide +kernel
theorem dX8_tour_47 : decode cX8_tour 47 = .ok (.goto 31, 3) := by decide +kernel
theorem dX8_tour_50 : decode cX8_tour 50 = .ok (.iload_n 2, 1) := by decide +kernel
theorem dX8_tour_51 : decode cX8_tour 51 = .ok (.iconst 1, 1) := by decide +kernel
theorem dX8_tour_52 : decode cX8_tour 52 = .ok (.if_icmp .ne 10, 3) := by decide +kernel
theorem dX8_tour_55 : decode cX8_tour 55 = .ok (.aload_n 0, 1) := by decide +kernel
theorem dX8_tour_56 : decode cX8_tour 56 = .ok (.getfield 264, 3) := by decide +kernel
theorem dX8_tour_59 : decode cX8_tour 59 = .ok (.goto 19, 3) := by decide +kernel
theorem dX8_tour_62 : decode cX8_tour 62 = .ok (.iload_n 2, 1) := by decide +kernel
theorem dX8_tour_63 : decode cX8_tour 63 = .ok (.iconst 2, 1) := by decide +kernel
theorem dX8_tour_64 : decode cX8_tour 64 = .ok (.if_icmp .ne 10, 3) := by decide +kernel
theorem dX8_tour_67 : decode cX8_tour 67 = .ok (.aload_n 0, 1) := by decide +kernel
theorem dX8_tour_68 : decode cX8_tour 68 = .ok (.getfield 267, 3) := by decide +kernel
theorem dX8_tour_71 : decode cX8_tour 71 = .ok (.goto 7, 3) := by decide +kernel
theorem dX8_tour_74 : decode cX8_tour 74 = .ok (.aload_n 0, 1) := by decide +kernel
theorem dX8_tour_75 : decode cX8_tour 75 = .ok (.getfield 270, 3) := by decide +kernel
theorem dX8_tour_78 : decode cX8_tour 78 = .ok (.ireturn, 1) := by decide +kernel
set_option maxRecDepth 20000 in
theorem ggX8_deal_X8_isSheet : GoodIn wsX8_deal wsX8_isSheet := goodIn_r _ [8, 9, 10, 11, 7, 12] rfl (by decide +kernel)
set_option maxRecDepth 20000 in
theorem gX8_deal_X8_isSheet : GoodIn wsX8_deal (va_wsS RX8 286 yX8_isSheet wsX8_isSheet) := goodIn_app (goodIn_of _ (by decide +kernel)) ggX8_deal_X8_isSheet
set_option maxRecDepth 20000 in
theorem ggX8_deal_X8_tourBad : GoodIn wsX8_deal wsX8_tourBad := goodIn_r _ [16, 17, 18, 19, 20, 21, 22, 7, 23, 1, 10, 11, 12, 24, 25, 26, 27, 3, 170, 171, 172, 173, 174, 175, 176, 177, 178, 179, 180, 181, 182, 183, 184, 185, 186, 187, 188, 189, 190, 191, 192, 193, 194, 195, 196, 197, 198, 199, 200, 201, 202, 203, 204, 205, 206, 207, 208, 209, 210, 211, 212, 213] rfl (by decide +kernel)
set_option maxRecDepth 20000 in
theorem gX8_deal_X8_tourBad : GoodIn wsX8_deal (wsV RX8 291 RX8 yX8_tourBad wsX8_tourBad) := goodIn_app (goodIn_of _ (by decide +kernel)) ggX8_deal_X8_tourBad
set_option maxRecDepth 20000 in
theorem ggX8_deal_X8_goes : GoodIn wsX8_deal wsX8_goes := goodIn_r _ [31, 18, 19, 32, 33, 34, 7, 35, 4, 36, 37, 38, 2, 39, 40, 41, 42, 43, 44, 45, 46, 1, 3, 47, 48, 49, 50, 51, 52, 53, 54, 55, 56, 57, 58, 59, 60, 61, 62, 63, 64, 65, 66, 67, 68, 69, 70, 71, 72, 73, 74, 75, 76, 77, 78, 79, 80, 81, 82, 83, 84, 85, 86, 87, 88, 89, 90, 91, 92, 93, 94, 95, 96, 97, 98, 99, 100, 101, 102, 103, 10, 11, 12, 104, 105, 106, 107, 108, 109, 110, 111, 112, 113, 114, 115, 116, 117, 118, 119, 120, 121, 122, 123, 124, 125, 126, 127, 128, 129, 130, 131, 132, 133, 134, 135, 136, 137, 138, 139, 140, 141, 142, 143, 144, 145, 146, 147, 148, 149, 150, 151, 152, 153, 154, 155, 156, 157, 158, 159, 160, 161, 162, 163, 164, 165, 166, 167, 168, 169, 170, 171, 172, 173, 174, 175, 176, 177, 178, 179, 180, 181, 182, 183, 184, 185, 186, 187, 188, 189, 190, 191, 192, 193, 194, 195, 196, 197, 198, 199, 200, 201, 202, 203, 204, 205, 206, 207, 208, 209, 210, 211, 212, 213] rfl (by decide +kernel)
set_option maxRecDepth 20000 in
theorem gX8_deal_X8_goes : GoodIn wsX8_deal (wsV RX8 294 RX8 yX8_goes wsX8_goes) := goodIn_app (goodIn_of _ (by decide +kernel)) ggX8_deal_X8_goes
theorem dX8_deal_0 : decode cX8_deal 0 = .ok (.iload_n 1, 1) := by decide +kernel
theorem dX8_deal_1 : decode cX8_deal 1 = .ok (.invokestatic 286, 3) := by decide +kernel
theorem dX8_deal_4 : decode cX8_deal 4 = .ok (.ifCond .ne 6, 3) := by decide +kernel
theorem dX8_deal_7 : decode cX8_deal 7 = .ok (.bipush (-2), 2) := by decide +kernel
theorem dX8_deal_9 : decode cX8_deal 9 = .ok (.ireturn, 1) := by decide +kernel
theorem dX8_deal_10 : decode cX8_deal 10 = .ok (.aload_n 0, 1) := by decide +kernel
theorem dX8_deal_11 : decode cX8_deal 11 = .ok (.iload_n 1, 1) := by decide +kernel
theorem dX8_deal_12 : decode cX8_deal 12 = .ok (.invokevirtual 291, 3) := by decide +kernel
theorem dX8_deal_15 : decode cX8_deal 15 = .ok (.istore_n 2, 1) := by decide +kernel
theorem dX8_deal_16 : decode cX8_deal 16 = .ok (.iload_n 2, 1) := by decide +kernel
theorem dX8_deal_17 : decode cX8_deal 17 = .ok (.ifCond .eq 5, 3) := by decide +kernel
theorem dX8_deal_20 : decode cX8_deal 20 = .ok (.iload_n 2, 1) := by decide +kernel
theorem dX8_deal_21 : decode cX8_deal 21 = .ok (.ireturn, 1) := by decide +kernel
theorem dX8_deal_22 : decode cX8_deal 22 = .ok (.aload_n 0, 1) := by decide +kernel
theorem dX8_deal_23 : decode cX8_deal 23 = .ok (.iload_n 1, 1) := by decide +kernel
theorem dX8_deal_24 : decode cX8_deal 24 = .ok (.invokevirtual 294, 3) := by decide +kernel
theorem dX8_deal_27 : decode cX8_deal 27 = .ok (.iconst 0, 1) := by decide +kernel
theorem dX8_deal_28 : decode cX8_deal 28 = .ok (.istore_n 3, 1) := by decide +kernel
theorem dX8_deal_29 : decode cX8_deal 29 = .ok (.iload_n 3, 1) := by decide +kernel
theorem dX8_deal_30 : decode cX8_deal 30 = .ok (.aload_n 0, 1) := by decide +kernel
theorem dX8_deal_31 : decode cX8_deal 31 = .ok (.getfield 64, 3) := by decide +kernel
theorem dX8_deal_34 : decode cX8_deal 34 = .ok (.if_icmp .ge 32, 3) := by decide +kernel
theorem dX8_deal_37 : decode cX8_deal 37 = .ok (.aload_n 0, 1) := by decide +kernel
theorem dX8_deal_38 : decode cX8_deal 38 = .ok (.getfield 273, 3) := by decide +kernel
theorem dX8_deal_41 : decode cX8_deal 41 = .ok (.iload_n 3, 1) := by decide +kernel
theorem dX8_deal_42 : decode cX8_deal 42 = .ok (.ishr, 1) := by decide +kernel
theorem dX8_deal_43 : decode cX8_deal 43 = .ok (.iconst 1, 1) := by decide +kernel
theorem dX8_deal_44 : decode cX8_deal 44 = .ok (.iand, 1) := by decide +kernel
theorem dX8_deal_45 : decode cX8_deal 45 = .ok (.iconst 1, 1) := by decide +kernel
theorem dX8_deal_46 : decode cX8_deal 46 = .ok (.if_icmp .ne 14, 3) := by decide +kernel
theorem dX8_deal_49 : decode cX8_deal 49 = .ok (.aload_n 0, 1) := by decide +kernel
theorem dX8_deal_50 : decode cX8_deal 50 = .ok (.getfield 29, 3) := by decide +kernel
theorem dX8_deal_53 : decode cX8_deal 53 = .ok (.iconst 3, 1) := by decide +kernel
theorem dX8_deal_54 : decode cX8_deal 54 = .ok (.iload_n 3, 1) := by decide +kernel
theorem dX8_deal_55 : decode cX8_deal 55 = .ok (.imul, 1) := by decide +kernel
theorem dX8_deal_56 : decode cX8_deal 56 = .ok (.iconst 2, 1) := by decide +kernel
theorem dX8_deal_57 : decode cX8_deal 57 = .ok (.iadd, 1) := by decide +kernel
theorem dX8_deal_58 : decode cX8_deal 58 = .ok (.iconst 1, 1) := by decide +kernel
theorem dX8_deal_59 : decode cX8_deal 59 = .ok (.iastore, 1) := by decide +kernel
theorem dX8_deal_60 : decode cX8_deal 60 = .ok (.iinc 3 1, 3) := by decide +kernel
theorem dX8_deal_63 : decode cX8_deal 63 = .ok (.goto (-34), 3) := by decide +kernel
theorem dX8_deal_66 : decode cX8_deal 66 = .ok (.aload_n 0, 1) := by decide +kernel
theorem dX8_deal_67 : decode cX8_deal 67 = .ok (.getfield 261, 3) := by decide +kernel
theorem dX8_deal_70 : decode cX8_deal 70 = .ok (.ireturn, 1) := by decide +kernel
set_option maxRecDepth 20000 in
theorem ggX8_looks_X8_shakes : GoodIn wsX8_looks wsX8_shakes := goodIn_r _ [8, 9, 10, 11, 7, 12, 13, 14, 15, 16, 17, 18, 19, 20, 21, 22, 23, 24, 25, 26, 27, 28, 29, 30, 31, 32, 33, 34, 35, 36, 37, 38, 39, 40, 41, 42, 43, 44, 45, 46, 47, 48, 49, 50, 51, 52, 53, 54, 55, 56, 57, 58, 59, 60, 61, 62, 63, 64, 65, 66, 67, 68, 69, 70, 71, 72, 73, 74, 75, 76, 77, 78, 79, 80, 81, 82, 83, 84, 85, 86, 87, 88, 89, 90, 91, 92, 93, 94, 95, 96, 97, 98, 99, 100, 101, 102, 103, 104, 105, 106, 107, 108, 109, 110, 111, 112, 113, 114, 115, 116, 117, 118, 119, 120, 121, 122, 123, 124, 125, 126, 127, 135, 136, 137, 138, 139, 140, 141, 142, 143, 144, 145, 146, 147, 148, 149, 150, 151, 152, 153, 154, 155, 156, 157, 158, 159, 160, 161, 162, 163, 164, 165, 166, 167, 168, 169, 170, 171, 172, 173, 174, 175, 176, 177, 178] rfl (by decide +kernel)
set_option maxRecDepth 20000 in
theorem gX8_looks_X8_shakes : GoodIn wsX8_looks (wsV RX8 258 RX8 yX8_shakes wsX8_shakes) := goodIn_app (goodIn_of _ (by decide +kernel)) ggX8_looks_X8_shakes
set_option maxRecDepth 20000 in
theorem ggX8_looks_X8_looks : GoodIn wsX8_looks wsX8_looks := goodIn_r _ [0, 1, 2, 3, 4, 5, 6, 7, 8, 9, 10, 11, 12, 13, 14, 15, 16, 17, 18, 19, 20, 21, 22, 23, 24, 25, 26, 27, 28, 29, 30, 31, 32, 33, 34, 35, 36, 37, 38, 39, 40, 41, 42, 43, 44, 45, 46, 47, 48, 49, 50, 51, 52, 53, 54, 55, 56, 57, 58, 59, 60, 61, 62, 63, 64, 65, 66, 67, 68, 69, 70, 71, 72, 73, 74, 75, 76, 77, 78, 79, 80, 81, 82, 83, 84, 85, 86, 87, 88, 89, 90, 91, 92, 93, 94, 95, 96, 97, 98, 99, 100, 101, 102, 103, 104, 105, 106, 107, 108, 109, 110, 111, 112, 113, 114, 115, 116, 117, 118, 119, 120, 121, 122, 123, 124, 125, 126, 127, 128, 129, 130, 131, 132, 133, 134, 135, 136, 137, 138, 139, 140, 141, 142, 143, 144, 145, 146, 147, 148, 149, 150, 151, 152, 153, 154, 155, 156, 157, 158, 159, 160, 161, 162, 163, 164, 165, 166, 167, 168, 169, 170, 171, 172, 173, 174, 175, 176, 177, 178] rfl (by decide +kernel)
set_option maxRecDepth 20000 in
theorem gX8_looks_X8_looks : GoodIn wsX8_looks (wsV RX8 303 RX8 yX8_looks wsX8_looks) := goodIn_app (goodIn_of _ (by decide +kernel)) ggX8_looks_X8_looks
set_option maxRecDepth 20000 in
theorem ggX8_looks_X8_worthOf : GoodIn wsX8_looks wsX8_worthOf := goodIn_r _ [134, 17, 18, 19, 20, 21, 7, 22, 23, 24, 25, 26, 27, 28, 29, 30, 31, 32, 33, 34, 35, 36, 37, 38, 39, 40, 41, 42, 43, 44, 45, 46, 47, 48, 49, 50, 51, 52, 53, 54, 55, 56, 57, 58, 59, 60, 61, 62, 63, 64, 65, 66, 67, 68, 69, 70, 71, 72, 73, 74, 75, 76, 77, 78, 79, 80, 81, 82, 83, 84, 85, 86, 87, 88, 89, 90, 91, 92, 93, 94, 95, 96, 97, 98, 99, 100, 101, 102, 103, 104, 105, 106, 107, 108, 109, 110, 111, 112, 113, 114, 115, 116, 117, 118, 119, 120, 121, 122, 123, 135, 136, 137, 138, 139, 140, 141, 142, 143, 144, 145, 146, 147, 148, 149, 150, 151, 152, 153, 154, 155, 156, 157, 158, 159, 160, 161, 162, 163, 164, 165, 166, 167, 168, 169, 170, 171, 172, 173, 174, 175, 176, 177, 178] rfl (by decide +kernel)
set_option maxRecDepth 20000 in
theorem gX8_looks_X8_worthOf : GoodIn wsX8_looks (wsV RX8 255 RX8 yX8_worthOf wsX8_worthOf) := goodIn_app (goodIn_of _ (by decide +kernel)) ggX8_looks_X8_worthOf
theorem dX8_looks_0 : decode cX8_looks 0 = .ok (.aload_n 0, 1) := by decide +kernel
theorem dX8_looks_1 : decode cX8_looks 1 = .ok (.getfield 297, 3) := by decide +kernel
theorem dX8_looks_4 : decode cX8_looks 4 = .ok (.iconst (-1), 1) := by decide +kernel
theorem dX8_looks_5 : decode cX8_looks 5 = .ok (.if_icmp .eq 12, 3) := by decide +kernel
theorem dX8_looks_8 : decode cX8_looks 8 = .ok (.iload 5, 2) := by decide +kernel
theorem dX8_looks_10 : decode cX8_looks 10 = .ok (.aload_n 0, 1) := by decide +kernel
theorem dX8_looks_11 : decode cX8_looks 11 = .ok (.getfield 300, 3) := by decide +kernel
theorem dX8_looks_14 : decode cX8_looks 14 = .ok (.if_icmp .le 15, 3) := by decide +kernel
theorem dX8_looks_17 : decode cX8_looks 17 = .ok (.aload_n 0, 1) := by decide +kernel
theorem dX8_looks_18 : decode cX8_looks 18 = .ok (.iload 6, 2) := by decide +kernel
theorem dX8_looks_20 : decode cX8_looks 20 = .ok (.putfield 297, 3) := by decide +kernel
theorem dX8_looks_23 : decode cX8_looks 23 = .ok (.aload_n 0, 1) := by decide +kernel
theorem dX8_looks_24 : decode cX8_looks 24 = .ok (.iload 5, 2) := by decide +kernel
theorem dX8_looks_26 : decode cX8_looks 26 = .ok (.putfield 300, 3) := by decide +kernel
theorem dX8_looks_29 : decode cX8_looks 29 = .ok (.iload_n 2, 1) := by decide +kernel
theorem dX8_looks_30 : decode cX8_looks 30 = .ok (.ifCond .ne 4, 3) := by decide +kernel
theorem dX8_looks_33 : decode cX8_looks 33 = .ok (.return_, 1) := by decide +kernel
theorem dX8_looks_34 : decode cX8_looks 34 = .ok (.iconst 0, 1) := by decide +kernel
theorem dX8_looks_35 : decode cX8_looks 35 = .ok (.istore 7, 2) := by decide +kernel
theorem dX8_looks_37 : decode cX8_looks 37 = .ok (.iload 7, 2) := by decide +kernel
theorem dX8_looks_39 : decode cX8_looks 39 = .ok (.aload_n 0, 1) := by decide +kernel
theorem dX8_looks_40 : decode cX8_looks 40 = .ok (.getfield 64, 3) := by decide +kernel
theorem dX8_looks_43 : decode cX8_looks 43 = .ok (.if_icmp .ge 109, 3) := by decide +kernel
theorem dX8_looks_46 : decode cX8_looks 46 = .ok (.iload_n 1, 1) := by decide +kernel
theorem dX8_looks_47 : decode cX8_looks 47 = .ok (.iload 7, 2) := by decide +kernel
theorem dX8_looks_49 : decode cX8_looks 49 = .ok (.ishr, 1) := by decide +kernel
theorem dX8_looks_50 : decode cX8_looks 50 = .ok (.iconst 1, 1) := by decide +kernel
theorem dX8_looks_51 : decode cX8_looks 51 = .ok (.iand, 1) := by decide +kernel
theorem dX8_looks_52 : decode cX8_looks 52 = .ok (.iconst 1, 1) := by decide +kernel
theorem dX8_looks_53 : decode cX8_looks 53 = .ok (.if_icmp .ne 93, 3) := by decide +kernel
theorem dX8_looks_56 : decode cX8_looks 56 = .ok (.aload_n 0, 1) := by decide +kernel
theorem dX8_looks_57 : decode cX8_looks 57 = .ok (.iload 7, 2) := by decide +kernel
theorem dX8_looks_59 : decode cX8_looks 59 = .ok (.iload_n 3, 1) := by decide +kernel
theorem dX8_looks_60 : decode cX8_looks 60 = .ok (.iload 4, 2) := by decide +kernel
theorem dX8_looks_62 : decode cX8_looks 62 = .ok (.invokevirtual 258, 3) := by decide +kernel
theorem dX8_looks_65 : decode cX8_looks 65 = .ok (.istore 8, 2) := by decide +kernel
theorem dX8_looks_67 : decode cX8_looks 67 = .ok (.iload_n 1, 1) := by decide +kernel
theorem dX8_looks_68 : decode cX8_looks 68 = .ok (.iconst 1, 1) := by decide +kernel
theorem dX8_looks_69 : decode cX8_looks 69 = .ok (.iload 7, 2) := by decide +kernel
theorem dX8_looks_71 : decode cX8_looks 71 = .ok (.ishl, 1) := by decide +kernel
theorem dX8_looks_72 : decode cX8_looks 72 = .ok (.iconst (-1), 1) := by decide +kernel
theorem dX8_looks_73 : decode cX8_looks 73 = .ok (.ixor, 1) := by decide +kernel
theorem dX8_looks_74 : decode cX8_looks 74 = .ok (.iand, 1) := by decide +kernel
theorem dX8_looks_75 : decode cX8_looks 75 = .ok (.istore 9, 2) := by decide +kernel
theorem dX8_looks_77 : decode cX8_looks 77 = .ok (.bipush 10, 2) := by decide +kernel
theorem dX8_looks_79 : decode cX8_looks 79 = .ok (.iload 6, 2) := by decide +kernel
theorem dX8_looks_81 : decode cX8_looks 81 = .ok (.imul, 1) := by decide +kernel
theorem dX8_looks_82 : decode cX8_looks 82 = .ok (.iload 7, 2) := by decide +kernel
theorem dX8_looks_84 : decode cX8_looks 84 = .ok (.iadd, 1) := by decide +kernel
theorem dX8_looks_85 : decode cX8_looks 85 = .ok (.iconst 1, 1) := by decide +kernel
theorem dX8_looks_86 : decode cX8_looks 86 = .ok (.iadd, 1) := by decide +kernel
theorem dX8_looks_87 : decode cX8_looks 87 = .ok (.istore 10, 2) := by decide +kernel
theorem dX8_looks_89 : decode cX8_looks 89 = .ok (.iload 8, 2) := by decide +kernel
theorem dX8_looks_91 : decode cX8_looks 91 = .ok (.iconst (-1), 1) := by decide +kernel
theorem dX8_looks_92 : decode cX8_looks 92 = .ok (.if_icmp .ne 22, 3) := by decide +kernel
theorem dX8_looks_95 : decode cX8_looks 95 = .ok (.aload_n 0, 1) := by decide +kernel
theorem dX8_looks_96 : decode cX8_looks 96 = .ok (.iload 9, 2) := by decide +kernel
theorem dX8_looks_98 : decode cX8_looks 98 = .ok (.iload_n 2, 1) := by decide +kernel
theorem dX8_looks_99 : decode cX8_looks 99 = .ok (.iconst 1, 1) := by decide +kernel
theorem dX8_looks_100 : decode cX8_looks 100 = .ok (.isub, 1) := by decide +kernel
theorem dX8_looks_101 : decode cX8_looks 101 = .ok (.iload_n 3, 1) := by decide +kernel
theorem dX8_looks_102 : decode cX8_looks 102 = .ok (.iload 4, 2) := by decide +kernel
theorem dX8_looks_104 : decode cX8_looks 104 = .ok (.iload 5, 2) := by decide +kernel
theorem dX8_looks_106 : decode cX8_looks 106 = .ok (.iload 10, 2) := by decide +kernel
theorem dX8_looks_108 : decode cX8_looks 108 = .ok (.invokevirtual 303, 3) := by decide +kernel
theorem dX8_looks_111 : decode cX8_looks 111 = .ok (.goto 35, 3) := by decide +kernel
theorem dX8_looks_114 : decode cX8_looks 114 = .ok (.aload_n 0, 1) := by decide +kernel
theorem dX8_looks_115 : decode cX8_looks 115 = .ok (.iload 9, 2) := by decide +kernel
theorem dX8_looks_117 : decode cX8_looks 117 = .ok (.iload_n 2, 1) := by decide +kernel
theorem dX8_looks_118 : decode cX8_looks 118 = .ok (.iconst 1, 1) := by decide +kernel
theorem dX8_looks_119 : decode cX8_looks 119 = .ok (.isub, 1) := by decide +kernel
theorem dX8_looks_120 : decode cX8_looks 120 = .ok (.iload 8, 2) := by decide +kernel
theorem dX8_looks_122 : decode cX8_looks 122 = .ok (.iconst 1, 1) := by decide +kernel
theorem dX8_looks_123 : decode cX8_looks 123 = .ok (.iadd, 1) := by decide +kernel
theorem dX8_looks_124 : decode cX8_looks 124 = .ok (.iload 4, 2) := by decide +kernel
theorem dX8_looks_126 : decode cX8_looks 126 = .ok (.iconst 1, 1) := by decide +kernel
theorem dX8_looks_127 : decode cX8_looks 127 = .ok (.iadd, 1) := by decide +kernel
theorem dX8_looks_128 : decode cX8_looks 128 = .ok (.iload 5, 2) := by decide +kernel
theorem dX8_looks_130 : decode cX8_looks 130 = .ok (.aload_n 0, 1) := by decide +kernel
theorem dX8_looks_131 : decode cX8_looks 131 = .ok (.iload 7, 2) := by decide +kernel
theorem dX8_looks_133 : decode cX8_looks 133 = .ok (.iload 8, 2) := by decide +kernel
theorem dX8_looks_135 : decode cX8_looks 135 = .ok (.iload 4, 2) := by decide +kernel
theorem dX8_looks_137 : decode cX8_looks 137 = .ok (.invokevirtual 255, 3) := by decide +kernel
theorem dX8_looks_140 : decode cX8_looks 140 = .ok (.iadd, 1) := by decide +kernel
theorem dX8_looks_141 : decode cX8_looks 141 = .ok (.iload 10, 2) := by decide +kernel
theorem dX8_looks_143 : decode cX8_looks 143 = .ok (.invokevirtual 303, 3) := by decide +kernel
theorem dX8_looks_146 : decode cX8_looks 146 = .ok (.iinc 7 1, 3) := by decide +kernel
theorem dX8_looks_149 : decode cX8_looks 149 = .ok (.goto (-112), 3) := by decide +kernel
theorem dX8_looks_152 : decode cX8_looks 152 = .ok (.return_, 1) := by decide +kernel
set_option maxRecDepth 20000 in
theorem ggX8_openSet_X8_isShaken : GoodIn wsX8_openSet wsX8_isShaken := goodIn_r _ [6, 7, 8, 9, 10, 11, 12, 13, 14, 15, 16, 17, 18, 19, 20, 21, 22, 23, 24, 25, 26, 27, 28, 29, 30, 31, 32, 33, 34, 35, 36, 37, 38, 39, 40, 41, 42, 43, 44, 45, 46, 47, 48, 49, 50, 51] rfl (by decide +kernel)
set_option maxRecDepth 20000 in
theorem gX8_openSet_X8_isShaken : GoodIn wsX8_openSet (wsV RX8 276 RX8 yX8_isShaken wsX8_isShaken) := goodIn_app (goodIn_of _ (by decide +kernel)) ggX8_openSet_X8_isShaken
theorem dX8_openSet_0 : decode cX8_openSet 0 = .ok (.iconst 0, 1) := by decide +kernel
theorem dX8_openSet_1 : decode cX8_openSet 1 = .ok (.istore_n 1, 1) := by decide +kernel
theorem dX8_openSet_2 : decode cX8_openSet 2 = .ok (.iconst 0, 1) := by decide +kernel
theorem dX8_openSet_3 : decode cX8_openSet 3 = .ok (.istore_n 2, 1) := by decide +kernel
theorem dX8_openSet_4 : decode cX8_openSet 4 = .ok (.iload_n 2, 1) := by decide +kernel
theorem dX8_openSet_5 : decode cX8_openSet 5 = .ok (.aload_n 0, 1) := by decide +kernel
theorem dX8_openSet_6 : decode cX8_openSet 6 = .ok (.getfield 64, 3) := by decide +kernel
theorem dX8_openSet_9 : decode cX8_openSet 9 = .ok (.if_icmp .ge 27, 3) := by decide +kernel
theorem dX8_openSet_12 : decode cX8_openSet 12 = .ok (.iload_n 1, 1) := by decide +kernel
theorem dX8_openSet_13 : decode cX8_openSet 13 = .ok (.aload_n 0, 1) := by decide +kernel
theorem dX8_openSet_14 : decode cX8_openSet 14 = .ok (.iload_n 2, 1) := by decide +kernel
theorem dX8_openSet_15 : decode cX8_openSet 15 = .ok (.invokevirtual 276, 3) := by decide +kernel
theorem dX8_openSet_18 : decode cX8_openSet 18 = .ok (.ifCond .eq 7, 3) := by decide +kernel
theorem dX8_openSet_21 : decode cX8_openSet 21 = .ok (.iconst 0, 1) := by decide +kernel
theorem dX8_openSet_22 : decode cX8_openSet 22 = .ok (.goto 4, 3) := by decide +kernel
theorem dX8_openSet_25 : decode cX8_openSet 25 = .ok (.iconst 1, 1) := by decide +kernel
theorem dX8_openSet_26 : decode cX8_openSet 26 = .ok (.iload_n 2, 1) := by decide +kernel
theorem dX8_openSet_27 : decode cX8_openSet 27 = .ok (.ishl, 1) := by decide +kernel
theorem dX8_openSet_28 : decode cX8_openSet 28 = .ok (.ior, 1) := by decide +kernel
theorem dX8_openSet_29 : decode cX8_openSet 29 = .ok (.istore_n 1, 1) := by decide +kernel
