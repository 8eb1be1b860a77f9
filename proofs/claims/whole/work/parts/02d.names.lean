theorem dX3_leave_12 : decode cX3_leave 12 = .ok (.iload_n 2, 1) := by decide +kernel
theorem dX3_leave_13 : decode cX3_leave 13 = .ok (.invokestatic 90, 3) := by decide +kernel
theorem dX3_leave_16 : decode cX3_leave 16 = .ok (.ifCond .eq 25, 3) := by decide +kernel
theorem dX3_leave_19 : decode cX3_leave 19 = .ok (.aload_n 0, 1) := by decide +kernel
theorem dX3_leave_20 : decode cX3_leave 20 = .ok (.aload_n 0, 1) := by decide +kernel
theorem dX3_leave_21 : decode cX3_leave 21 = .ok (.getfield 103, 3) := by decide +kernel
theorem dX3_leave_24 : decode cX3_leave 24 = .ok (.iconst 1, 1) := by decide +kernel
theorem dX3_leave_25 : decode cX3_leave 25 = .ok (.iload_n 2, 1) := by decide +kernel
theorem dX3_leave_26 : decode cX3_leave 26 = .ok (.ishl, 1) := by decide +kernel
theorem dX3_leave_27 : decode cX3_leave 27 = .ok (.iconst (-1), 1) := by decide +kernel
theorem dX3_leave_28 : decode cX3_leave 28 = .ok (.ixor, 1) := by decide +kernel
theorem dX3_leave_29 : decode cX3_leave 29 = .ok (.iand, 1) := by decide +kernel
theorem dX3_leave_30 : decode cX3_leave 30 = .ok (.bipush 6, 2) := by decide +kernel
theorem dX3_leave_32 : decode cX3_leave 32 = .ok (.invokevirtual 126, 3) := by decide +kernel
theorem dX3_leave_35 : decode cX3_leave 35 = .ok (.iload_n 1, 1) := by decide +kernel
theorem dX3_leave_36 : decode cX3_leave 36 = .ok (.if_icmp .lt 5, 3) := by decide +kernel
theorem dX3_leave_39 : decode cX3_leave 39 = .ok (.iload_n 2, 1) := by decide +kernel
theorem dX3_leave_40 : decode cX3_leave 40 = .ok (.ireturn, 1) := by decide +kernel
theorem dX3_leave_41 : decode cX3_leave 41 = .ok (.iinc 2 1, 3) := by decide +kernel
theorem dX3_leave_44 : decode cX3_leave 44 = .ok (.goto (-42), 3) := by decide +kernel
theorem dX3_leave_47 : decode cX3_leave 47 = .ok (.iconst (-1), 1) := by decide +kernel
theorem dX3_leave_48 : decode cX3_leave 48 = .ok (.ireturn, 1) := by decide +kernel
set_option maxRecDepth 20000 in
theorem ggX3_waterAll_X3_seek : GoodIn wsX3_waterAll wsX3_seek := goodIn_r _ [8, 9, 10, 11, 12, 13, 7, 14, 15, 16, 17, 18, 19, 20, 21, 22, 23, 24, 25, 26, 124, 125, 126, 127, 128, 129, 130, 131, 132, 133, 134, 135, 136, 137, 138, 139, 140] rfl (by decide +kernel)
set_option maxRecDepth 20000 in
theorem gX3_waterAll_X3_seek : GoodIn wsX3_waterAll (wsV RX3 126 RX3 yX3_seek wsX3_seek) := goodIn_app (goodIn_of _ (by decide +kernel)) ggX3_waterAll_X3_seek
set_option maxRecDepth 20000 in
theorem ggX3_waterAll_X2_inStreet : GoodIn wsX3_waterAll wsX2_inStreet := goodIn_r _ [31, 32, 33, 25, 19, 26, 141, 142, 143, 144, 145, 146, 147, 148] rfl (by decide +kernel)
set_option maxRecDepth 20000 in
theorem gX3_waterAll_X2_inStreet : GoodIn wsX3_waterAll (wsV RX3 136 RX2 yX2_inStreet wsX2_inStreet) := goodIn_app (goodIn_of _ (by decide +kernel)) ggX3_waterAll_X2_inStreet
set_option maxRecDepth 20000 in
theorem ggX3_waterAll_X3_waterOne : GoodIn wsX3_waterAll wsX3_waterOne := goodIn_r _ [37, 38, 2, 3, 1, 25, 19, 26, 39, 40, 41, 42, 43, 7, 44, 16, 45, 46, 47, 17, 48, 49, 50, 51, 52, 53, 54, 18, 20, 21, 22, 23, 24, 55, 56, 57, 58, 59, 60, 61, 62, 63, 64, 65, 66, 67, 68, 69, 70, 71, 72, 73, 74, 75, 76, 77, 78, 79, 80, 81, 82, 83, 84, 85, 86, 87, 88, 89, 90, 91, 92, 93, 94, 95, 96, 97, 98, 99, 100, 101, 102, 103, 104, 105, 106, 107, 108, 109, 110, 111, 112, 113, 114, 115, 116, 117, 118, 119, 15, 120, 121, 122, 123, 4, 5, 6, 8, 9, 10, 11, 12, 13, 14, 124, 125, 126, 127, 128, 129, 130, 131, 132, 133, 134, 135, 136, 137, 138, 139, 140, 141, 142, 143, 144, 145, 146, 147, 148, 149, 150, 151, 152, 153, 154, 155, 156] rfl (by decide +kernel)
set_option maxRecDepth 20000 in
theorem gX3_waterAll_X3_waterOne : GoodIn wsX3_waterAll (wsV RX3 139 RX3 yX3_waterOne wsX3_waterOne) := goodIn_app (goodIn_of _ (by decide +kernel)) ggX3_waterAll_X3_waterOne
set_option maxRecDepth 20000 in
theorem ggX3_waterAll_X3_fillEnds : GoodIn wsX3_waterAll wsX3_fillEnds := goodIn_r _ [115, 16, 2, 45, 48, 49, 50, 51, 52, 53, 54, 18, 19, 20, 55, 56, 57, 58, 59, 60, 61, 62, 63, 64, 65, 66, 67, 68, 25, 26, 39, 40, 21, 22, 23, 7, 24, 116, 117, 118, 119, 38, 46, 47, 15, 120, 121, 122, 123, 73, 74, 75, 76, 124, 125, 126, 127, 128, 129, 130, 131, 132, 133, 134, 135, 136, 137, 138, 139, 140, 141, 142, 143, 144, 145, 146, 147, 148, 149, 150, 151, 152] rfl (by decide +kernel)
set_option maxRecDepth 20000 in
theorem gX3_waterAll_X3_fillEnds : GoodIn wsX3_waterAll (wsV RX3 112 RX3 yX3_fillEnds wsX3_fillEnds) := goodIn_app (goodIn_of _ (by decide +kernel)) ggX3_waterAll_X3_fillEnds
theorem dX3_waterAll_0 : decode cX3_waterAll 0 = .ok (.aload_n 0, 1) := by decide +kernel
theorem dX3_waterAll_1 : decode cX3_waterAll 1 = .ok (.iconst (-1), 1) := by decide +kernel
theorem dX3_waterAll_2 : decode cX3_waterAll 2 = .ok (.putfield 130, 3) := by decide +kernel
theorem dX3_waterAll_5 : decode cX3_waterAll 5 = .ok (.aload_n 0, 1) := by decide +kernel
theorem dX3_waterAll_6 : decode cX3_waterAll 6 = .ok (.aload_n 0, 1) := by decide +kernel
theorem dX3_waterAll_7 : decode cX3_waterAll 7 = .ok (.aload_n 0, 1) := by decide +kernel
theorem dX3_waterAll_8 : decode cX3_waterAll 8 = .ok (.getfield 103, 3) := by decide +kernel
theorem dX3_waterAll_11 : decode cX3_waterAll 11 = .ok (.bipush 6, 2) := by decide +kernel
theorem dX3_waterAll_13 : decode cX3_waterAll 13 = .ok (.invokevirtual 126, 3) := by decide +kernel
theorem dX3_waterAll_16 : decode cX3_waterAll 16 = .ok (.putfield 133, 3) := by decide +kernel
theorem dX3_waterAll_19 : decode cX3_waterAll 19 = .ok (.iconst 0, 1) := by decide +kernel
theorem dX3_waterAll_20 : decode cX3_waterAll 20 = .ok (.istore_n 2, 1) := by decide +kernel
theorem dX3_waterAll_21 : decode cX3_waterAll 21 = .ok (.iload_n 2, 1) := by decide +kernel
theorem dX3_waterAll_22 : decode cX3_waterAll 22 = .ok (.iconst 2, 1) := by decide +kernel
theorem dX3_waterAll_23 : decode cX3_waterAll 23 = .ok (.if_icmp .ge 63, 3) := by decide +kernel
theorem dX3_waterAll_26 : decode cX3_waterAll 26 = .ok (.aload_n 1, 1) := by decide +kernel
theorem dX3_waterAll_27 : decode cX3_waterAll 27 = .ok (.ifnonnull 7, 3) := by decide +kernel
theorem dX3_waterAll_30 : decode cX3_waterAll 30 = .ok (.iconst 0, 1) := by decide +kernel
theorem dX3_waterAll_31 : decode cX3_waterAll 31 = .ok (.goto 13, 3) := by decide +kernel
theorem dX3_waterAll_34 : decode cX3_waterAll 34 = .ok (.aload_n 0, 1) := by decide +kernel
theorem dX3_waterAll_35 : decode cX3_waterAll 35 = .ok (.getfield 103, 3) := by decide +kernel
theorem dX3_waterAll_38 : decode cX3_waterAll 38 = .ok (.aload_n 1, 1) := by decide +kernel
theorem dX3_waterAll_39 : decode cX3_waterAll 39 = .ok (.iload_n 2, 1) := by decide +kernel
theorem dX3_waterAll_40 : decode cX3_waterAll 40 = .ok (.invokevirtual 136, 3) := by decide +kernel
theorem dX3_waterAll_43 : decode cX3_waterAll 43 = .ok (.iand, 1) := by decide +kernel
theorem dX3_waterAll_44 : decode cX3_waterAll 44 = .ok (.istore_n 3, 1) := by decide +kernel
theorem dX3_waterAll_45 : decode cX3_waterAll 45 = .ok (.iconst 0, 1) := by decide +kernel
theorem dX3_waterAll_46 : decode cX3_waterAll 46 = .ok (.istore 4, 2) := by decide +kernel
theorem dX3_waterAll_48 : decode cX3_waterAll 48 = .ok (.iload 4, 2) := by decide +kernel
theorem dX3_waterAll_50 : decode cX3_waterAll 50 = .ok (.bipush 24, 2) := by decide +kernel
theorem dX3_waterAll_52 : decode cX3_waterAll 52 = .ok (.if_icmp .ge 22, 3) := by decide +kernel
theorem dX3_waterAll_55 : decode cX3_waterAll 55 = .ok (.iload_n 3, 1) := by decide +kernel
theorem dX3_waterAll_56 : decode cX3_waterAll 56 = .ok (.ifCond .eq 18, 3) := by decide +kernel
theorem dX3_waterAll_59 : decode cX3_waterAll 59 = .ok (.aload_n 0, 1) := by decide +kernel
theorem dX3_waterAll_60 : decode cX3_waterAll 60 = .ok (.aload_n 1, 1) := by decide +kernel
theorem dX3_waterAll_61 : decode cX3_waterAll 61 = .ok (.iload_n 3, 1) := by decide +kernel
theorem dX3_waterAll_62 : decode cX3_waterAll 62 = .ok (.iload_n 2, 1) := by decide +kernel
theorem dX3_waterAll_63 : decode cX3_waterAll 63 = .ok (.iload 4, 2) := by decide +kernel
theorem dX3_waterAll_65 : decode cX3_waterAll 65 = .ok (.invokevirtual 139, 3) := by decide +kernel
theorem dX3_waterAll_68 : decode cX3_waterAll 68 = .ok (.iinc 4 1, 3) := by decide +kernel
theorem dX3_waterAll_71 : decode cX3_waterAll 71 = .ok (.goto (-23), 3) := by decide +kernel
theorem dX3_waterAll_74 : decode cX3_waterAll 74 = .ok (.aload_n 0, 1) := by decide +kernel
theorem dX3_waterAll_75 : decode cX3_waterAll 75 = .ok (.aload_n 1, 1) := by decide +kernel
theorem dX3_waterAll_76 : decode cX3_waterAll 76 = .ok (.iload_n 3, 1) := by decide +kernel
theorem dX3_waterAll_77 : decode cX3_waterAll 77 = .ok (.invokevirtual 112, 3) := by decide +kernel
theorem dX3_waterAll_80 : decode cX3_waterAll 80 = .ok (.iinc 2 1, 3) := by decide +kernel
theorem dX3_waterAll_83 : decode cX3_waterAll 83 = .ok (.goto (-62), 3) := by decide +kernel
theorem dX3_waterAll_86 : decode cX3_waterAll 86 = .ok (.return_, 1) := by decide +kernel
set_option maxRecDepth 20000 in
theorem ggX3_waterOne_X7_at : GoodIn wsX3_waterOne wsX7_at := goodIn_r _ [7] rfl (by decide +kernel)
set_option maxRecDepth 20000 in
theorem gX3_waterOne_X7_at_n63 : GoodIn wsX3_waterOne (wsX7_at) := ggX3_waterOne_X7_at
set_option maxRecDepth 20000 in
theorem ggX3_waterOne_X7_put : GoodIn wsX3_waterOne wsX7_put := goodIn_r _ [9] rfl (by decide +kernel)
set_option maxRecDepth 20000 in
theorem gX3_waterOne_X7_put_n94 : GoodIn wsX3_waterOne (wsX7_put) := ggX3_waterOne_X7_put
set_option maxRecDepth 20000 in
theorem ggX3_waterOne_X3_learn : GoodIn wsX3_waterOne wsX3_learn := goodIn_r _ [14, 15, 2, 16, 1, 17, 18, 19, 20, 21, 22, 23, 24, 25, 26, 27, 6, 28, 29, 30, 31, 13, 32, 33, 34, 35, 36, 37, 38, 39, 40, 41, 42, 43, 44, 45, 46, 5, 7, 8, 9, 47, 48, 49, 50, 51, 52, 53, 54, 55, 56, 57, 58, 59, 60, 61, 62, 63, 64, 65, 66, 67, 68, 69, 70, 71, 72, 73, 74, 75, 76, 77, 78, 79, 80, 81, 82, 83, 84, 85, 86, 87, 88, 89, 113, 114, 115, 116, 117, 118, 119, 120, 121, 122, 123, 124, 125, 126, 127, 128, 129, 130, 131, 132, 133, 134, 135, 136, 137, 138, 139, 140, 141, 142, 143, 144, 145] rfl (by decide +kernel)
set_option maxRecDepth 20000 in
theorem gX3_waterOne_X3_learn : GoodIn wsX3_waterOne (wsV RX3 109 RX3 yX3_learn wsX3_learn) := goodIn_app (goodIn_of _ (by decide +kernel)) ggX3_waterOne_X3_learn
set_option maxRecDepth 20000 in
theorem ggX3_waterOne_X3_fillEnds : GoodIn wsX3_waterOne wsX3_fillEnds := goodIn_r _ [93, 15, 2, 16, 20, 21, 22, 23, 24, 25, 26, 27, 6, 28, 33, 34, 35, 36, 37, 38, 39, 40, 41, 42, 43, 44, 45, 46, 5, 7, 8, 9, 29, 30, 31, 13, 32, 94, 95, 96, 97, 1, 17, 18, 98, 99, 100, 101, 102, 51, 52, 53, 54, 113, 114, 115, 116, 117, 118, 119, 120, 121, 122, 123, 124, 125, 126, 127, 128, 129, 130, 131, 132, 133, 134, 135, 136, 137, 138, 139, 140, 141] rfl (by decide +kernel)
set_option maxRecDepth 20000 in
theorem gX3_waterOne_X3_fillEnds : GoodIn wsX3_waterOne (wsV RX3 112 RX3 yX3_fillEnds wsX3_fillEnds) := goodIn_app (goodIn_of _ (by decide +kernel)) ggX3_waterOne_X3_fillEnds
set_option maxRecDepth 20000 in
theorem ggX3_waterOne_X3_seek : GoodIn wsX3_waterOne wsX3_seek := goodIn_r _ [106, 107, 108, 109, 110, 111, 13, 112, 98, 15, 19, 27, 6, 28, 29, 30, 31, 32, 5, 7, 113, 114, 115, 116, 117, 118, 119, 120, 121, 122, 123, 124, 125, 126, 127, 128, 129] rfl (by decide +kernel)
set_option maxRecDepth 20000 in
theorem gX3_waterOne_X3_seek : GoodIn wsX3_waterOne (wsV RX3 126 RX3 yX3_seek wsX3_seek) := goodIn_app (goodIn_of _ (by decide +kernel)) ggX3_waterOne_X3_seek
theorem dX3_waterOne_0 : decode cX3_waterOne 0 = .ok (.aload_n 0, 1) := by decide +kernel
theorem dX3_waterOne_1 : decode cX3_waterOne 1 = .ok (.getfield 18, 3) := by decide +kernel
theorem dX3_waterOne_4 : decode cX3_waterOne 4 = .ok (.iload_n 3, 1) := by decide +kernel
theorem dX3_waterOne_5 : decode cX3_waterOne 5 = .ok (.bipush 24, 2) := by decide +kernel
theorem dX3_waterOne_7 : decode cX3_waterOne 7 = .ok (.imul, 1) := by decide +kernel
theorem dX3_waterOne_8 : decode cX3_waterOne 8 = .ok (.iload 4, 2) := by decide +kernel
theorem dX3_waterOne_10 : decode cX3_waterOne 10 = .ok (.iadd, 1) := by decide +kernel
theorem dX3_waterOne_11 : decode cX3_waterOne 11 = .ok (.invokestatic 63, 3) := by decide +kernel
theorem dX3_waterOne_14 : decode cX3_waterOne 14 = .ok (.istore 5, 2) := by decide +kernel
theorem dX3_waterOne_16 : decode cX3_waterOne 16 = .ok (.aload_n 0, 1) := by decide +kernel
theorem dX3_waterOne_17 : decode cX3_waterOne 17 = .ok (.getfield 18, 3) := by decide +kernel
theorem dX3_waterOne_20 : decode cX3_waterOne 20 = .ok (.iload_n 3, 1) := by decide +kernel
theorem dX3_waterOne_21 : decode cX3_waterOne 21 = .ok (.bipush 24, 2) := by decide +kernel
theorem dX3_waterOne_23 : decode cX3_waterOne 23 = .ok (.imul, 1) := by decide +kernel
theorem dX3_waterOne_24 : decode cX3_waterOne 24 = .ok (.iload 4, 2) := by decide +kernel
theorem dX3_waterOne_26 : decode cX3_waterOne 26 = .ok (.iadd, 1) := by decide +kernel
theorem dX3_waterOne_27 : decode cX3_waterOne 27 = .ok (.bipush 9, 2) := by decide +kernel
theorem dX3_waterOne_29 : decode cX3_waterOne 29 = .ok (.invokestatic 94, 3) := by decide +kernel
theorem dX3_waterOne_32 : decode cX3_waterOne 32 = .ok (.aload_n 0, 1) := by decide +kernel
theorem dX3_waterOne_33 : decode cX3_waterOne 33 = .ok (.aload_n 1, 1) := by decide +kernel
theorem dX3_waterOne_34 : decode cX3_waterOne 34 = .ok (.iload_n 2, 1) := by decide +kernel
theorem dX3_waterOne_35 : decode cX3_waterOne 35 = .ok (.iload 4, 2) := by decide +kernel
theorem dX3_waterOne_37 : decode cX3_waterOne 37 = .ok (.invokevirtual 109, 3) := by decide +kernel
theorem dX3_waterOne_40 : decode cX3_waterOne 40 = .ok (.aload_n 0, 1) := by decide +kernel
theorem dX3_waterOne_41 : decode cX3_waterOne 41 = .ok (.aload_n 1, 1) := by decide +kernel
theorem dX3_waterOne_42 : decode cX3_waterOne 42 = .ok (.iload_n 2, 1) := by decide +kernel
theorem dX3_waterOne_43 : decode cX3_waterOne 43 = .ok (.invokevirtual 112, 3) := by decide +kernel
theorem dX3_waterOne_46 : decode cX3_waterOne 46 = .ok (.aload_n 0, 1) := by decide +kernel
theorem dX3_waterOne_47 : decode cX3_waterOne 47 = .ok (.aload_n 0, 1) := by decide +kernel
theorem dX3_waterOne_48 : decode cX3_waterOne 48 = .ok (.getfield 103, 3) := by decide +kernel
theorem dX3_waterOne_51 : decode cX3_waterOne 51 = .ok (.bipush 6, 2) := by decide +kernel
theorem dX3_waterOne_53 : decode cX3_waterOne 53 = .ok (.invokevirtual 126, 3) := by decide +kernel
theorem dX3_waterOne_56 : decode cX3_waterOne 56 = .ok (.istore 6, 2) := by decide +kernel
theorem dX3_waterOne_58 : decode cX3_waterOne 58 = .ok (.iload 6, 2) := by decide +kernel
theorem dX3_waterOne_60 : decode cX3_waterOne 60 = .ok (.aload_n 0, 1) := by decide +kernel
theorem dX3_waterOne_61 : decode cX3_waterOne 61 = .ok (.getfield 133, 3) := by decide +kernel
theorem dX3_waterOne_64 : decode cX3_waterOne 64 = .ok (.if_icmp .le 20, 3) := by decide +kernel
theorem dX3_waterOne_67 : decode cX3_waterOne 67 = .ok (.aload_n 0, 1) := by decide +kernel
theorem dX3_waterOne_68 : decode cX3_waterOne 68 = .ok (.iload 6, 2) := by decide +kernel
theorem dX3_waterOne_70 : decode cX3_waterOne 70 = .ok (.putfield 133, 3) := by decide +kernel
theorem dX3_waterOne_73 : decode cX3_waterOne 73 = .ok (.aload_n 0, 1) := by decide +kernel
theorem dX3_waterOne_74 : decode cX3_waterOne 74 = .ok (.bipush 100, 2) := by decide +kernel
theorem dX3_waterOne_76 : decode cX3_waterOne 76 = .ok (.iload_n 3, 1) := by decide +kernel
theorem dX3_waterOne_77 : decode cX3_waterOne 77 = .ok (.imul, 1) := by decide +kernel
theorem dX3_waterOne_78 : decode cX3_waterOne 78 = .ok (.iload 4, 2) := by decide +kernel
theorem dX3_waterOne_80 : decode cX3_waterOne 80 = .ok (.iadd, 1) := by decide +kernel
theorem dX3_waterOne_81 : decode cX3_waterOne 81 = .ok (.putfield 130, 3) := by decide +kernel
theorem dX3_waterOne_84 : decode cX3_waterOne 84 = .ok (.aload_n 0, 1) := by decide +kernel
theorem dX3_waterOne_85 : decode cX3_waterOne 85 = .ok (.getfield 18, 3) := by decide +kernel
theorem dX3_waterOne_88 : decode cX3_waterOne 88 = .ok (.iload_n 3, 1) := by decide +kernel
theorem dX3_waterOne_89 : decode cX3_waterOne 89 = .ok (.bipush 24, 2) := by decide +kernel
theorem dX3_waterOne_91 : decode cX3_waterOne 91 = .ok (.imul, 1) := by decide +kernel
theorem dX3_waterOne_92 : decode cX3_waterOne 92 = .ok (.iload 4, 2) := by decide +kernel
theorem dX3_waterOne_94 : decode cX3_waterOne 94 = .ok (.iadd, 1) := by decide +kernel
theorem dX3_waterOne_95 : decode cX3_waterOne 95 = .ok (.iload 5, 2) := by decide +kernel
theorem dX3_waterOne_97 : decode cX3_waterOne 97 = .ok (.invokestatic 94, 3) := by decide +kernel
theorem dX3_waterOne_100 : decode cX3_waterOne 100 = .ok (.aload_n 0, 1) := by decide +kernel
theorem dX3_waterOne_101 : decode cX3_waterOne 101 = .ok (.aload_n 1, 1) := by decide +kernel
theorem dX3_waterOne_102 : decode cX3_waterOne 102 = .ok (.iload_n 2, 1) := by decide +kernel
theorem dX3_waterOne_103 : decode cX3_waterOne 103 = .ok (.iload 4, 2) := by decide +kernel
theorem dX3_waterOne_105 : decode cX3_waterOne 105 = .ok (.invokevirtual 109, 3) := by decide +kernel
theorem dX3_waterOne_108 : decode cX3_waterOne 108 = .ok (.return_, 1) := by decide +kernel
set_option maxRecDepth 20000 in
theorem ggX3_learn_J6_bitCount_0f7a4 : GoodIn wsX3_learn wsJ6_bitCount_0f7a4 := goodIn_r _ [11, 12, 13, 14] rfl (by decide +kernel)
set_option maxRecDepth 20000 in
theorem gX3_learn_J6_bitCount_0f7a4 : GoodIn wsX3_learn (va_wsS RX3 67 yJ6_bitCount_0f7a4 wsJ6_bitCount_0f7a4) := goodIn_app (goodIn_of _ (by decide +kernel)) ggX3_learn_J6_bitCount_0f7a4
set_option maxRecDepth 20000 in
theorem ggX3_learn_X7_hasBit : GoodIn wsX3_learn wsX7_hasBit := goodIn_r _ [17] rfl (by decide +kernel)
set_option maxRecDepth 20000 in
theorem gX3_learn_X7_hasBit_n90 : GoodIn wsX3_learn (wsX7_hasBit) := ggX3_learn_X7_hasBit
set_option maxRecDepth 20000 in
theorem ggX3_learn_X3_entry : GoodIn wsX3_learn wsX3_entry := goodIn_r _ [22] rfl (by decide +kernel)
set_option maxRecDepth 20000 in
theorem gX3_learn_X3_entry : GoodIn wsX3_learn (wsV RX3 143 RX3 yX3_entry wsX3_entry) := goodIn_app (goodIn_of _ (by decide +kernel)) ggX3_learn_X3_entry
set_option maxRecDepth 20000 in
theorem ggX3_learn_X0_regard : GoodIn wsX3_learn wsX0_regard := goodIn_r _ [27, 28, 29, 30, 31, 32, 33, 34, 35, 36, 37, 16, 38, 39, 40, 101, 102, 103, 104, 105, 106, 107, 108, 109, 110, 111, 112] rfl (by decide +kernel)
set_option maxRecDepth 20000 in
theorem gX3_learn_X0_regard : GoodIn wsX3_learn (wsV RX3 73 RX0 yX0_regard wsX0_regard) := goodIn_app (goodIn_of _ (by decide +kernel)) ggX3_learn_X0_regard
set_option maxRecDepth 20000 in
theorem ggX3_learn_X0_see : GoodIn wsX3_learn wsX0_see := goodIn_r _ [44, 34, 45, 46, 47, 26, 48, 33, 39, 16, 40, 109, 110, 111, 112] rfl (by decide +kernel)
set_option maxRecDepth 20000 in
theorem gX3_learn_X0_see : GoodIn wsX3_learn (wsV RX3 80 RX0 yX0_see wsX0_see) := goodIn_app (goodIn_of _ (by decide +kernel)) ggX3_learn_X0_see
set_option maxRecDepth 20000 in
theorem ggX3_learn_X0_needs : GoodIn wsX3_learn wsX0_needs := goodIn_r _ [52, 31, 34, 29, 53, 54, 55, 56, 57, 58, 59, 60, 37, 16, 38, 39, 40, 61, 62, 63, 64, 65, 66, 67, 68, 69, 109, 110, 111, 112, 113, 114, 115, 116] rfl (by decide +kernel)
set_option maxRecDepth 20000 in
theorem gX3_learn_X0_needs : GoodIn wsX3_learn (wsV RX3 147 RX0 yX0_needs wsX0_needs) := goodIn_app (goodIn_of _ (by decide +kernel)) ggX3_learn_X0_needs
set_option maxRecDepth 20000 in
theorem ggX3_learn_X7_put : GoodIn wsX3_learn wsX7_put := goodIn_r _ [40] rfl (by decide +kernel)
set_option maxRecDepth 20000 in
theorem gX3_learn_X7_put_n94 : GoodIn wsX3_learn (wsX7_put) := ggX3_learn_X7_put
set_option maxRecDepth 20000 in
theorem ggX3_learn_X0_takes : GoodIn wsX3_learn wsX0_takes := goodIn_r _ [73, 31, 34, 29, 53, 54, 55, 56, 57, 58, 59, 60, 37, 16, 38, 39, 40, 61, 62, 63, 64, 65, 74, 75, 68, 76, 109, 110, 111, 112, 113, 114, 115, 116] rfl (by decide +kernel)
set_option maxRecDepth 20000 in
theorem gX3_learn_X0_takes : GoodIn wsX3_learn (wsV RX3 149 RX0 yX0_takes wsX0_takes) := goodIn_app (goodIn_of _ (by decide +kernel)) ggX3_learn_X0_takes
set_option maxRecDepth 20000 in
theorem ggX3_learn_X0_worth : GoodIn wsX3_learn wsX0_worth := goodIn_r _ [80, 31, 34, 29, 53, 54, 55, 56, 57, 58, 59, 60, 37, 16, 38, 39, 40, 61, 62, 63, 64, 65, 81, 82, 68, 83, 109, 110, 111, 112, 113, 114, 115, 116] rfl (by decide +kernel)
set_option maxRecDepth 20000 in
theorem gX3_learn_X0_worth : GoodIn wsX3_learn (wsV RX3 84 RX0 yX0_worth wsX0_worth) := goodIn_app (goodIn_of _ (by decide +kernel)) ggX3_learn_X0_worth
theorem dX3_learn_0 : decode cX3_learn 0 = .ok (.aload_n 0, 1) := by decide +kernel
theorem dX3_learn_1 : decode cX3_learn 1 = .ok (.getfield 106, 3) := by decide +kernel
theorem dX3_learn_4 : decode cX3_learn 4 = .ok (.aload_n 0, 1) := by decide +kernel
theorem dX3_learn_5 : decode cX3_learn 5 = .ok (.getfield 103, 3) := by decide +kernel
theorem dX3_learn_8 : decode cX3_learn 8 = .ok (.invokestatic 67, 3) := by decide +kernel
theorem dX3_learn_11 : decode cX3_learn 11 = .ok (.iadd, 1) := by decide +kernel
theorem dX3_learn_12 : decode cX3_learn 12 = .ok (.istore 4, 2) := by decide +kernel
theorem dX3_learn_14 : decode cX3_learn 14 = .ok (.iconst 0, 1) := by decide +kernel
theorem dX3_learn_15 : decode cX3_learn 15 = .ok (.istore 5, 2) := by decide +kernel
theorem dX3_learn_17 : decode cX3_learn 17 = .ok (.iload 5, 2) := by decide +kernel
theorem dX3_learn_19 : decode cX3_learn 19 = .ok (.bipush 6, 2) := by decide +kernel
theorem dX3_learn_21 : decode cX3_learn 21 = .ok (.if_icmp .ge 120, 3) := by decide +kernel
theorem dX3_learn_24 : decode cX3_learn 24 = .ok (.aload_n 0, 1) := by decide +kernel
theorem dX3_learn_25 : decode cX3_learn 25 = .ok (.getfield 106, 3) := by decide +kernel
theorem dX3_learn_28 : decode cX3_learn 28 = .ok (.istore 6, 2) := by decide +kernel
theorem dX3_learn_30 : decode cX3_learn 30 = .ok (.iload 6, 2) := by decide +kernel
theorem dX3_learn_32 : decode cX3_learn 32 = .ok (.iload 4, 2) := by decide +kernel
theorem dX3_learn_34 : decode cX3_learn 34 = .ok (.if_icmp .ge 101, 3) := by decide +kernel
theorem dX3_learn_37 : decode cX3_learn 37 = .ok (.iload_n 2, 1) := by decide +kernel
theorem dX3_learn_38 : decode cX3_learn 38 = .ok (.iload 5, 2) := by decide +kernel
theorem dX3_learn_40 : decode cX3_learn 40 = .ok (.invokestatic 90, 3) := by decide +kernel
theorem dX3_learn_43 : decode cX3_learn 43 = .ok (.ifCond .eq 92, 3) := by decide +kernel
theorem dX3_learn_46 : decode cX3_learn 46 = .ok (.aload_n 0, 1) := by decide +kernel
theorem dX3_learn_47 : decode cX3_learn 47 = .ok (.iload 5, 2) := by decide +kernel
theorem dX3_learn_49 : decode cX3_learn 49 = .ok (.iload 6, 2) := by decide +kernel
theorem dX3_learn_51 : decode cX3_learn 51 = .ok (.iload_n 3, 1) := by decide +kernel
theorem dX3_learn_52 : decode cX3_learn 52 = .ok (.invokevirtual 143, 3) := by decide +kernel
theorem dX3_learn_55 : decode cX3_learn 55 = .ok (.istore 7, 2) := by decide +kernel
theorem dX3_learn_57 : decode cX3_learn 57 = .ok (.aload_n 0, 1) := by decide +kernel
theorem dX3_learn_58 : decode cX3_learn 58 = .ok (.getfield 12, 3) := by decide +kernel
theorem dX3_learn_61 : decode cX3_learn 61 = .ok (.aload_n 1, 1) := by decide +kernel
theorem dX3_learn_62 : decode cX3_learn 62 = .ok (.iload 5, 2) := by decide +kernel
theorem dX3_learn_64 : decode cX3_learn 64 = .ok (.iload 6, 2) := by decide +kernel
theorem dX3_learn_66 : decode cX3_learn 66 = .ok (.invokevirtual 73, 3) := by decide +kernel
theorem dX3_learn_69 : decode cX3_learn 69 = .ok (.aload_n 0, 1) := by decide +kernel
theorem dX3_learn_70 : decode cX3_learn 70 = .ok (.getfield 12, 3) := by decide +kernel
theorem dX3_learn_73 : decode cX3_learn 73 = .ok (.aload_n 0, 1) := by decide +kernel
theorem dX3_learn_74 : decode cX3_learn 74 = .ok (.getfield 18, 3) := by decide +kernel
theorem dX3_learn_77 : decode cX3_learn 77 = .ok (.iload_n 3, 1) := by decide +kernel
theorem dX3_learn_78 : decode cX3_learn 78 = .ok (.invokevirtual 80, 3) := by decide +kernel
theorem dX3_learn_81 : decode cX3_learn 81 = .ok (.aload_n 0, 1) := by decide +kernel
theorem dX3_learn_82 : decode cX3_learn 82 = .ok (.getfield 25, 3) := by decide +kernel
theorem dX3_learn_85 : decode cX3_learn 85 = .ok (.iload 7, 2) := by decide +kernel
theorem dX3_learn_87 : decode cX3_learn 87 = .ok (.aload_n 0, 1) := by decide +kernel
theorem dX3_learn_88 : decode cX3_learn 88 = .ok (.getfield 12, 3) := by decide +kernel
theorem dX3_learn_91 : decode cX3_learn 91 = .ok (.invokevirtual 147, 3) := by decide +kernel
theorem dX3_learn_94 : decode cX3_learn 94 = .ok (.invokestatic 94, 3) := by decide +kernel
theorem dX3_learn_97 : decode cX3_learn 97 = .ok (.aload_n 0, 1) := by decide +kernel
theorem dX3_learn_98 : decode cX3_learn 98 = .ok (.getfield 28, 3) := by decide +kernel
theorem dX3_learn_101 : decode cX3_learn 101 = .ok (.iload 7, 2) := by decide +kernel
theorem dX3_learn_103 : decode cX3_learn 103 = .ok (.aload_n 0, 1) := by decide +kernel
theorem dX3_learn_104 : decode cX3_learn 104 = .ok (.getfield 12, 3) := by decide +kernel
theorem dX3_learn_107 : decode cX3_learn 107 = .ok (.invokevirtual 149, 3) := by decide +kernel
theorem dX3_learn_110 : decode cX3_learn 110 = .ok (.invokestatic 94, 3) := by decide +kernel
theorem dX3_learn_113 : decode cX3_learn 113 = .ok (.aload_n 0, 1) := by decide +kernel
theorem dX3_learn_114 : decode cX3_learn 114 = .ok (.getfield 31, 3) := by decide +kernel
theorem dX3_learn_117 : decode cX3_learn 117 = .ok (.iload 7, 2) := by decide +kernel
theorem dX3_learn_119 : decode cX3_learn 119 = .ok (.aload_n 0, 1) := by decide +kernel
theorem dX3_learn_120 : decode cX3_learn 120 = .ok (.getfield 12, 3) := by decide +kernel
theorem dX3_learn_123 : decode cX3_learn 123 = .ok (.invokevirtual 84, 3) := by decide +kernel
theorem dX3_learn_126 : decode cX3_learn 126 = .ok (.invokestatic 94, 3) := by decide +kernel
theorem dX3_learn_129 : decode cX3_learn 129 = .ok (.iinc 6 1, 3) := by decide +kernel
theorem dX3_learn_132 : decode cX3_learn 132 = .ok (.goto (-102), 3) := by decide +kernel
theorem dX3_learn_135 : decode cX3_learn 135 = .ok (.iinc 5 1, 3) := by decide +kernel
theorem dX3_learn_138 : decode cX3_learn 138 = .ok (.goto (-121), 3) := by decide +kernel
theorem dX3_learn_141 : decode cX3_learn 141 = .ok (.return_, 1) := by decide +kernel
set_option maxRecDepth 20000 in
theorem ggX3_fillEnds_J6_bitCount_0f7a4 : GoodIn wsX3_fillEnds wsJ6_bitCount_0f7a4 := goodIn_r _ [7, 8, 9, 10] rfl (by decide +kernel)
set_option maxRecDepth 20000 in
theorem gX3_fillEnds_J6_bitCount_0f7a4 : GoodIn wsX3_fillEnds (va_wsS RX3 67 yJ6_bitCount_0f7a4 wsJ6_bitCount_0f7a4) := goodIn_app (goodIn_of _ (by decide +kernel)) ggX3_fillEnds_J6_bitCount_0f7a4
set_option maxRecDepth 20000 in
theorem ggX3_fillEnds_X7_hasBit : GoodIn wsX3_fillEnds wsX7_hasBit := goodIn_r _ [13] rfl (by decide +kernel)
set_option maxRecDepth 20000 in
theorem gX3_fillEnds_X7_hasBit_n90 : GoodIn wsX3_fillEnds (wsX7_hasBit) := ggX3_fillEnds_X7_hasBit
set_option maxRecDepth 20000 in
theorem ggX3_fillEnds_X0_regard : GoodIn wsX3_fillEnds wsX0_regard := goodIn_r _ [18, 19, 20, 21, 22, 23, 24, 25, 26, 27, 28, 12, 29, 30, 31, 70, 71, 72, 73, 74, 75, 76, 77, 78, 79, 80, 81] rfl (by decide +kernel)
set_option maxRecDepth 20000 in
theorem gX3_fillEnds_X0_regard : GoodIn wsX3_fillEnds (wsV RX3 73 RX0 yX0_regard wsX0_regard) := goodIn_app (goodIn_of _ (by decide +kernel)) ggX3_fillEnds_X0_regard
set_option maxRecDepth 20000 in
theorem ggX3_fillEnds_X3_entry : GoodIn wsX3_fillEnds wsX3_entry := goodIn_r _ [36] rfl (by decide +kernel)
set_option maxRecDepth 20000 in
theorem gX3_fillEnds_X3_entry : GoodIn wsX3_fillEnds (wsV RX3 143 RX3 yX3_entry wsX3_entry) := goodIn_app (goodIn_of _ (by decide +kernel)) ggX3_fillEnds_X3_entry
set_option maxRecDepth 20000 in
theorem ggX3_fillEnds_X3_fillRow : GoodIn wsX3_fillEnds wsX3_fillRow := goodIn_r _ [40, 3, 41, 42, 43, 44, 28, 12, 29, 45, 46, 47, 17, 48, 49, 50, 51, 52, 24, 30, 31, 53, 54, 55, 56, 57, 58, 59, 60, 61, 62, 63, 64, 65, 66, 67, 68, 69, 78, 79, 80, 81] rfl (by decide +kernel)
set_option maxRecDepth 20000 in
theorem gX3_fillEnds_X3_fillRow : GoodIn wsX3_fillEnds (wsV RX3 151 RX3 yX3_fillRow wsX3_fillRow) := goodIn_app (goodIn_of _ (by decide +kernel)) ggX3_fillEnds_X3_fillRow
theorem dX3_fillEnds_0 : decode cX3_fillEnds 0 = .ok (.aload_n 0, 1) := by decide +kernel
theorem dX3_fillEnds_1 : decode cX3_fillEnds 1 = .ok (.getfield 106, 3) := by decide +kernel
theorem dX3_fillEnds_4 : decode cX3_fillEnds 4 = .ok (.aload_n 0, 1) := by decide +kernel
theorem dX3_fillEnds_5 : decode cX3_fillEnds 5 = .ok (.getfield 103, 3) := by decide +kernel
theorem dX3_fillEnds_8 : decode cX3_fillEnds 8 = .ok (.invokestatic 67, 3) := by decide +kernel
theorem dX3_fillEnds_11 : decode cX3_fillEnds 11 = .ok (.iadd, 1) := by decide +kernel
theorem dX3_fillEnds_12 : decode cX3_fillEnds 12 = .ok (.istore_n 3, 1) := by decide +kernel
theorem dX3_fillEnds_13 : decode cX3_fillEnds 13 = .ok (.iconst 0, 1) := by decide +kernel
theorem dX3_fillEnds_14 : decode cX3_fillEnds 14 = .ok (.istore 4, 2) := by decide +kernel
theorem dX3_fillEnds_16 : decode cX3_fillEnds 16 = .ok (.iload 4, 2) := by decide +kernel
theorem dX3_fillEnds_18 : decode cX3_fillEnds 18 = .ok (.bipush 6, 2) := by decide +kernel
theorem dX3_fillEnds_20 : decode cX3_fillEnds 20 = .ok (.if_icmp .ge 61, 3) := by decide +kernel
theorem dX3_fillEnds_23 : decode cX3_fillEnds 23 = .ok (.aload_n 0, 1) := by decide +kernel
theorem dX3_fillEnds_24 : decode cX3_fillEnds 24 = .ok (.getfield 106, 3) := by decide +kernel
theorem dX3_fillEnds_27 : decode cX3_fillEnds 27 = .ok (.istore 5, 2) := by decide +kernel
theorem dX3_fillEnds_29 : decode cX3_fillEnds 29 = .ok (.iload 5, 2) := by decide +kernel
theorem dX3_fillEnds_31 : decode cX3_fillEnds 31 = .ok (.iload_n 3, 1) := by decide +kernel
theorem dX3_fillEnds_32 : decode cX3_fillEnds 32 = .ok (.if_icmp .ge 43, 3) := by decide +kernel
theorem dX3_fillEnds_35 : decode cX3_fillEnds 35 = .ok (.iload_n 2, 1) := by decide +kernel
theorem dX3_fillEnds_36 : decode cX3_fillEnds 36 = .ok (.iload 4, 2) := by decide +kernel
theorem dX3_fillEnds_38 : decode cX3_fillEnds 38 = .ok (.invokestatic 90, 3) := by decide +kernel
theorem dX3_fillEnds_41 : decode cX3_fillEnds 41 = .ok (.ifCond .eq 34, 3) := by decide +kernel
theorem dX3_fillEnds_44 : decode cX3_fillEnds 44 = .ok (.aload_n 0, 1) := by decide +kernel
theorem dX3_fillEnds_45 : decode cX3_fillEnds 45 = .ok (.getfield 12, 3) := by decide +kernel
theorem dX3_fillEnds_48 : decode cX3_fillEnds 48 = .ok (.aload_n 1, 1) := by decide +kernel
theorem dX3_fillEnds_49 : decode cX3_fillEnds 49 = .ok (.iload 4, 2) := by decide +kernel
theorem dX3_fillEnds_51 : decode cX3_fillEnds 51 = .ok (.iload 5, 2) := by decide +kernel
theorem dX3_fillEnds_53 : decode cX3_fillEnds 53 = .ok (.invokevirtual 73, 3) := by decide +kernel
theorem dX3_fillEnds_56 : decode cX3_fillEnds 56 = .ok (.aload_n 0, 1) := by decide +kernel
theorem dX3_fillEnds_57 : decode cX3_fillEnds 57 = .ok (.aload_n 0, 1) := by decide +kernel
theorem dX3_fillEnds_58 : decode cX3_fillEnds 58 = .ok (.iload 4, 2) := by decide +kernel
theorem dX3_fillEnds_60 : decode cX3_fillEnds 60 = .ok (.iload 5, 2) := by decide +kernel
theorem dX3_fillEnds_62 : decode cX3_fillEnds 62 = .ok (.iconst 0, 1) := by decide +kernel
theorem dX3_fillEnds_63 : decode cX3_fillEnds 63 = .ok (.invokevirtual 143, 3) := by decide +kernel
theorem dX3_fillEnds_66 : decode cX3_fillEnds 66 = .ok (.invokevirtual 151, 3) := by decide +kernel
theorem dX3_fillEnds_69 : decode cX3_fillEnds 69 = .ok (.iinc 5 1, 3) := by decide +kernel
theorem dX3_fillEnds_72 : decode cX3_fillEnds 72 = .ok (.goto (-43), 3) := by decide +kernel
theorem dX3_fillEnds_75 : decode cX3_fillEnds 75 = .ok (.iinc 4 1, 3) := by decide +kernel
theorem dX3_fillEnds_78 : decode cX3_fillEnds 78 = .ok (.goto (-62), 3) := by decide +kernel
theorem dX3_fillEnds_81 : decode cX3_fillEnds 81 = .ok (.return_, 1) := by decide +kernel
set_option maxRecDepth 20000 in
theorem ggX3_fillRow_X7_at : GoodIn wsX3_fillRow wsX7_at := goodIn_r _ [8] rfl (by decide +kernel)
set_option maxRecDepth 20000 in
theorem gX3_fillRow_X7_at_n63 : GoodIn wsX3_fillRow (wsX7_at) := ggX3_fillRow_X7_at
set_option maxRecDepth 20000 in
theorem ggX3_fillRow_X0_lastHeld : GoodIn wsX3_fillRow wsX0_lastHeld := goodIn_r _ [13, 14, 15, 16, 12, 17, 18, 38, 39, 40, 41] rfl (by decide +kernel)
set_option maxRecDepth 20000 in
theorem gX3_fillRow_X0_lastHeld : GoodIn wsX3_fillRow (wsV RX3 155 RX0 yX0_lastHeld wsX0_lastHeld) := goodIn_app (goodIn_of _ (by decide +kernel)) ggX3_fillRow_X0_lastHeld
set_option maxRecDepth 20000 in
theorem ggX3_fillRow_X7_put : GoodIn wsX3_fillRow wsX7_put := goodIn_r _ [20] rfl (by decide +kernel)
set_option maxRecDepth 20000 in
theorem gX3_fillRow_X7_put_n94 : GoodIn wsX3_fillRow (wsX7_put) := ggX3_fillRow_X7_put
theorem dX3_fillRow_0 : decode cX3_fillRow 0 = .ok (.iconst (-1), 1) := by decide +kernel
theorem dX3_fillRow_1 : decode cX3_fillRow 1 = .ok (.istore_n 2, 1) := by decide +kernel
theorem dX3_fillRow_2 : decode cX3_fillRow 2 = .ok (.bipush 23, 2) := by decide +kernel
theorem dX3_fillRow_4 : decode cX3_fillRow 4 = .ok (.istore_n 3, 1) := by decide +kernel
theorem dX3_fillRow_5 : decode cX3_fillRow 5 = .ok (.iload_n 3, 1) := by decide +kernel
theorem dX3_fillRow_6 : decode cX3_fillRow 6 = .ok (.ifCond .lt 67, 3) := by decide +kernel
theorem dX3_fillRow_9 : decode cX3_fillRow 9 = .ok (.aload_n 0, 1) := by decide +kernel
theorem dX3_fillRow_10 : decode cX3_fillRow 10 = .ok (.getfield 12, 3) := by decide +kernel
theorem dX3_fillRow_13 : decode cX3_fillRow 13 = .ok (.aload_n 0, 1) := by decide +kernel
theorem dX3_fillRow_14 : decode cX3_fillRow 14 = .ok (.getfield 18, 3) := by decide +kernel
theorem dX3_fillRow_17 : decode cX3_fillRow 17 = .ok (.iload_n 3, 1) := by decide +kernel
theorem dX3_fillRow_18 : decode cX3_fillRow 18 = .ok (.aload_n 0, 1) := by decide +kernel
theorem dX3_fillRow_19 : decode cX3_fillRow 19 = .ok (.getfield 25, 3) := by decide +kernel
theorem dX3_fillRow_22 : decode cX3_fillRow 22 = .ok (.iload_n 1, 1) := by decide +kernel
theorem dX3_fillRow_23 : decode cX3_fillRow 23 = .ok (.iload_n 3, 1) := by decide +kernel
theorem dX3_fillRow_24 : decode cX3_fillRow 24 = .ok (.iadd, 1) := by decide +kernel
theorem dX3_fillRow_25 : decode cX3_fillRow 25 = .ok (.invokestatic 63, 3) := by decide +kernel
theorem dX3_fillRow_28 : decode cX3_fillRow 28 = .ok (.aload_n 0, 1) := by decide +kernel
theorem dX3_fillRow_29 : decode cX3_fillRow 29 = .ok (.getfield 28, 3) := by decide +kernel
theorem dX3_fillRow_32 : decode cX3_fillRow 32 = .ok (.iload_n 1, 1) := by decide +kernel
theorem dX3_fillRow_33 : decode cX3_fillRow 33 = .ok (.iload_n 3, 1) := by decide +kernel
theorem dX3_fillRow_34 : decode cX3_fillRow 34 = .ok (.iadd, 1) := by decide +kernel
theorem dX3_fillRow_35 : decode cX3_fillRow 35 = .ok (.invokestatic 63, 3) := by decide +kernel
theorem dX3_fillRow_38 : decode cX3_fillRow 38 = .ok (.invokevirtual 155, 3) := by decide +kernel
theorem dX3_fillRow_41 : decode cX3_fillRow 41 = .ok (.istore 4, 2) := by decide +kernel
theorem dX3_fillRow_43 : decode cX3_fillRow 43 = .ok (.iload 4, 2) := by decide +kernel
theorem dX3_fillRow_45 : decode cX3_fillRow 45 = .ok (.iconst (-1), 1) := by decide +kernel
theorem dX3_fillRow_46 : decode cX3_fillRow 46 = .ok (.if_icmp .ne 7, 3) := by decide +kernel
theorem dX3_fillRow_49 : decode cX3_fillRow 49 = .ok (.iload_n 2, 1) := by decide +kernel
theorem dX3_fillRow_50 : decode cX3_fillRow 50 = .ok (.goto 5, 3) := by decide +kernel
theorem dX3_fillRow_53 : decode cX3_fillRow 53 = .ok (.iload 4, 2) := by decide +kernel
theorem dX3_fillRow_55 : decode cX3_fillRow 55 = .ok (.istore_n 2, 1) := by decide +kernel
theorem dX3_fillRow_56 : decode cX3_fillRow 56 = .ok (.aload_n 0, 1) := by decide +kernel
theorem dX3_fillRow_57 : decode cX3_fillRow 57 = .ok (.getfield 34, 3) := by decide +kernel
theorem dX3_fillRow_60 : decode cX3_fillRow 60 = .ok (.iload_n 1, 1) := by decide +kernel
theorem dX3_fillRow_61 : decode cX3_fillRow 61 = .ok (.iload_n 3, 1) := by decide +kernel
theorem dX3_fillRow_62 : decode cX3_fillRow 62 = .ok (.iadd, 1) := by decide +kernel
theorem dX3_fillRow_63 : decode cX3_fillRow 63 = .ok (.iload_n 2, 1) := by decide +kernel
theorem dX3_fillRow_64 : decode cX3_fillRow 64 = .ok (.invokestatic 94, 3) := by decide +kernel
theorem dX3_fillRow_67 : decode cX3_fillRow 67 = .ok (.iinc 3 (-1), 3) := by decide +kernel
theorem dX3_fillRow_70 : decode cX3_fillRow 70 = .ok (.goto (-65), 3) := by decide +kernel
theorem dX3_fillRow_73 : decode cX3_fillRow 73 = .ok (.return_, 1) := by decide +kernel
set_option maxRecDepth 20000 in
theorem ggX3_walk_X7_hasBit : GoodIn wsX3_walk wsX7_hasBit := goodIn_r _ [8] rfl (by decide +kernel)
set_option maxRecDepth 20000 in
theorem gX3_walk_X7_hasBit_n90 : GoodIn wsX3_walk (wsX7_hasBit) := ggX3_walk_X7_hasBit
set_option maxRecDepth 20000 in
theorem ggX3_walk_X3_entry : GoodIn wsX3_walk wsX3_entry := goodIn_r _ [13] rfl (by decide +kernel)
set_option maxRecDepth 20000 in
theorem gX3_walk_X3_entry : GoodIn wsX3_walk (wsV RX3 143 RX3 yX3_entry wsX3_entry) := goodIn_app (goodIn_of _ (by decide +kernel)) ggX3_walk_X3_entry
set_option maxRecDepth 20000 in
theorem ggX3_walk_X7_at : GoodIn wsX3_walk wsX7_at := goodIn_r _ [15] rfl (by decide +kernel)
set_option maxRecDepth 20000 in
theorem gX3_walk_X7_at_n63 : GoodIn wsX3_walk (wsX7_at) := ggX3_walk_X7_at
set_option maxRecDepth 20000 in
theorem ggX3_walk_X3_walk : GoodIn wsX3_walk wsX3_walk := goodIn_r _ [0, 1, 2, 3, 4, 5, 6, 7, 8, 9, 10, 11, 12, 13, 14, 15, 16, 17, 18, 19, 20, 21, 22, 23, 24, 25, 26, 27, 28, 29, 30, 31, 32, 33, 34, 35] rfl (by decide +kernel)
set_option maxRecDepth 20000 in
theorem gX3_walk_X3_walk : GoodIn wsX3_walk (wsV RX3 122 RX3 yX3_walk wsX3_walk) := goodIn_app (goodIn_of _ (by decide +kernel)) ggX3_walk_X3_walk
theorem dX3_walk_0 : decode cX3_walk 0 = .ok (.iload 5, 2) := by decide +kernel
theorem dX3_walk_2 : decode cX3_walk 2 = .ok (.aload_n 0, 1) := by decide +kernel
theorem dX3_walk_3 : decode cX3_walk 3 = .ok (.getfield 116, 3) := by decide +kernel
theorem dX3_walk_6 : decode cX3_walk 6 = .ok (.if_icmp .le 15, 3) := by decide +kernel
theorem dX3_walk_9 : decode cX3_walk 9 = .ok (.aload_n 0, 1) := by decide +kernel
theorem dX3_walk_10 : decode cX3_walk 10 = .ok (.iload 5, 2) := by decide +kernel
theorem dX3_walk_12 : decode cX3_walk 12 = .ok (.putfield 116, 3) := by decide +kernel
theorem dX3_walk_15 : decode cX3_walk 15 = .ok (.aload_n 0, 1) := by decide +kernel
theorem dX3_walk_16 : decode cX3_walk 16 = .ok (.iload 6, 2) := by decide +kernel
theorem dX3_walk_18 : decode cX3_walk 18 = .ok (.putfield 119, 3) := by decide +kernel
theorem dX3_walk_21 : decode cX3_walk 21 = .ok (.iload_n 2, 1) := by decide +kernel
theorem dX3_walk_22 : decode cX3_walk 22 = .ok (.ifCond .le 9, 3) := by decide +kernel
theorem dX3_walk_25 : decode cX3_walk 25 = .ok (.iload_n 3, 1) := by decide +kernel
theorem dX3_walk_26 : decode cX3_walk 26 = .ok (.bipush 23, 2) := by decide +kernel
theorem dX3_walk_28 : decode cX3_walk 28 = .ok (.if_icmp .lt 4, 3) := by decide +kernel
theorem dX3_walk_31 : decode cX3_walk 31 = .ok (.return_, 1) := by decide +kernel
theorem dX3_walk_32 : decode cX3_walk 32 = .ok (.iconst 0, 1) := by decide +kernel
theorem dX3_walk_33 : decode cX3_walk 33 = .ok (.istore 7, 2) := by decide +kernel
theorem dX3_walk_35 : decode cX3_walk 35 = .ok (.iload 7, 2) := by decide +kernel
theorem dX3_walk_37 : decode cX3_walk 37 = .ok (.bipush 6, 2) := by decide +kernel
theorem dX3_walk_39 : decode cX3_walk 39 = .ok (.if_icmp .ge 136, 3) := by decide +kernel
theorem dX3_walk_42 : decode cX3_walk 42 = .ok (.iload_n 1, 1) := by decide +kernel
theorem dX3_walk_43 : decode cX3_walk 43 = .ok (.iload 7, 2) := by decide +kernel
theorem dX3_walk_45 : decode cX3_walk 45 = .ok (.invokestatic 90, 3) := by decide +kernel
theorem dX3_walk_48 : decode cX3_walk 48 = .ok (.ifCond .eq 121, 3) := by decide +kernel
theorem dX3_walk_51 : decode cX3_walk 51 = .ok (.iload_n 1, 1) := by decide +kernel
theorem dX3_walk_52 : decode cX3_walk 52 = .ok (.iconst 1, 1) := by decide +kernel
theorem dX3_walk_53 : decode cX3_walk 53 = .ok (.iload 7, 2) := by decide +kernel
theorem dX3_walk_55 : decode cX3_walk 55 = .ok (.ishl, 1) := by decide +kernel
theorem dX3_walk_56 : decode cX3_walk 56 = .ok (.iconst (-1), 1) := by decide +kernel
theorem dX3_walk_57 : decode cX3_walk 57 = .ok (.ixor, 1) := by decide +kernel
theorem dX3_walk_58 : decode cX3_walk 58 = .ok (.iand, 1) := by decide +kernel
theorem dX3_walk_59 : decode cX3_walk 59 = .ok (.istore 8, 2) := by decide +kernel
theorem dX3_walk_61 : decode cX3_walk 61 = .ok (.iload 6, 2) := by decide +kernel
theorem dX3_walk_63 : decode cX3_walk 63 = .ok (.bipush 10, 2) := by decide +kernel
theorem dX3_walk_65 : decode cX3_walk 65 = .ok (.imul, 1) := by decide +kernel
theorem dX3_walk_66 : decode cX3_walk 66 = .ok (.iload 7, 2) := by decide +kernel
theorem dX3_walk_68 : decode cX3_walk 68 = .ok (.iadd, 1) := by decide +kernel
theorem dX3_walk_69 : decode cX3_walk 69 = .ok (.iconst 1, 1) := by decide +kernel
theorem dX3_walk_70 : decode cX3_walk 70 = .ok (.iadd, 1) := by decide +kernel
theorem dX3_walk_71 : decode cX3_walk 71 = .ok (.istore 9, 2) := by decide +kernel
theorem dX3_walk_73 : decode cX3_walk 73 = .ok (.aload_n 0, 1) := by decide +kernel
theorem dX3_walk_74 : decode cX3_walk 74 = .ok (.getfield 34, 3) := by decide +kernel
theorem dX3_walk_77 : decode cX3_walk 77 = .ok (.aload_n 0, 1) := by decide +kernel
theorem dX3_walk_78 : decode cX3_walk 78 = .ok (.iload 7, 2) := by decide +kernel
theorem dX3_walk_80 : decode cX3_walk 80 = .ok (.aload_n 0, 1) := by decide +kernel
theorem dX3_walk_81 : decode cX3_walk 81 = .ok (.getfield 106, 3) := by decide +kernel
theorem dX3_walk_84 : decode cX3_walk 84 = .ok (.iload 4, 2) := by decide +kernel
theorem dX3_walk_86 : decode cX3_walk 86 = .ok (.iadd, 1) := by decide +kernel
theorem dX3_walk_87 : decode cX3_walk 87 = .ok (.iload_n 3, 1) := by decide +kernel
theorem dX3_walk_88 : decode cX3_walk 88 = .ok (.iconst 1, 1) := by decide +kernel
theorem dX3_walk_89 : decode cX3_walk 89 = .ok (.iadd, 1) := by decide +kernel
theorem dX3_walk_90 : decode cX3_walk 90 = .ok (.invokevirtual 143, 3) := by decide +kernel
theorem dX3_walk_93 : decode cX3_walk 93 = .ok (.invokestatic 63, 3) := by decide +kernel
theorem dX3_walk_96 : decode cX3_walk 96 = .ok (.istore 10, 2) := by decide +kernel
theorem dX3_walk_98 : decode cX3_walk 98 = .ok (.iload 10, 2) := by decide +kernel
theorem dX3_walk_100 : decode cX3_walk 100 = .ok (.iconst (-1), 1) := by decide +kernel
theorem dX3_walk_101 : decode cX3_walk 101 = .ok (.if_icmp .ne 22, 3) := by decide +kernel
theorem dX3_walk_104 : decode cX3_walk 104 = .ok (.aload_n 0, 1) := by decide +kernel
theorem dX3_walk_105 : decode cX3_walk 105 = .ok (.iload 8, 2) := by decide +kernel
theorem dX3_walk_107 : decode cX3_walk 107 = .ok (.iload_n 2, 1) := by decide +kernel
theorem dX3_walk_108 : decode cX3_walk 108 = .ok (.iconst 1, 1) := by decide +kernel
theorem dX3_walk_109 : decode cX3_walk 109 = .ok (.isub, 1) := by decide +kernel
theorem dX3_walk_110 : decode cX3_walk 110 = .ok (.iload_n 3, 1) := by decide +kernel
theorem dX3_walk_111 : decode cX3_walk 111 = .ok (.iload 4, 2) := by decide +kernel
theorem dX3_walk_113 : decode cX3_walk 113 = .ok (.iload 5, 2) := by decide +kernel
theorem dX3_walk_115 : decode cX3_walk 115 = .ok (.iload 9, 2) := by decide +kernel
theorem dX3_walk_117 : decode cX3_walk 117 = .ok (.invokevirtual 122, 3) := by decide +kernel
theorem dX3_walk_120 : decode cX3_walk 120 = .ok (.goto 49, 3) := by decide +kernel
theorem dX3_walk_123 : decode cX3_walk 123 = .ok (.aload_n 0, 1) := by decide +kernel
theorem dX3_walk_124 : decode cX3_walk 124 = .ok (.getfield 31, 3) := by decide +kernel
theorem dX3_walk_127 : decode cX3_walk 127 = .ok (.aload_n 0, 1) := by decide +kernel
theorem dX3_walk_128 : decode cX3_walk 128 = .ok (.iload 7, 2) := by decide +kernel
theorem dX3_walk_130 : decode cX3_walk 130 = .ok (.aload_n 0, 1) := by decide +kernel
theorem dX3_walk_131 : decode cX3_walk 131 = .ok (.getfield 106, 3) := by decide +kernel
theorem dX3_walk_134 : decode cX3_walk 134 = .ok (.iload 4, 2) := by decide +kernel
theorem dX3_walk_136 : decode cX3_walk 136 = .ok (.iadd, 1) := by decide +kernel
theorem dX3_walk_137 : decode cX3_walk 137 = .ok (.iload 10, 2) := by decide +kernel
theorem dX3_walk_139 : decode cX3_walk 139 = .ok (.invokevirtual 143, 3) := by decide +kernel
theorem dX3_walk_142 : decode cX3_walk 142 = .ok (.invokestatic 63, 3) := by decide +kernel
theorem dX3_walk_145 : decode cX3_walk 145 = .ok (.istore 11, 2) := by decide +kernel
theorem dX3_walk_147 : decode cX3_walk 147 = .ok (.aload_n 0, 1) := by decide +kernel
theorem dX3_walk_148 : decode cX3_walk 148 = .ok (.iload 8, 2) := by decide +kernel
theorem dX3_walk_150 : decode cX3_walk 150 = .ok (.iload_n 2, 1) := by decide +kernel
theorem dX3_walk_151 : decode cX3_walk 151 = .ok (.iconst 1, 1) := by decide +kernel
theorem dX3_walk_152 : decode cX3_walk 152 = .ok (.isub, 1) := by decide +kernel
theorem dX3_walk_153 : decode cX3_walk 153 = .ok (.iload 10, 2) := by decide +kernel
theorem dX3_walk_155 : decode cX3_walk 155 = .ok (.iload 4, 2) := by decide +kernel
theorem dX3_walk_157 : decode cX3_walk 157 = .ok (.iconst 1, 1) := by decide +kernel
theorem dX3_walk_158 : decode cX3_walk 158 = .ok (.iadd, 1) := by decide +kernel
theorem dX3_walk_159 : decode cX3_walk 159 = .ok (.iload 5, 2) := by decide +kernel
theorem dX3_walk_161 : decode cX3_walk 161 = .ok (.iload 11, 2) := by decide +kernel
theorem dX3_walk_163 : decode cX3_walk 163 = .ok (.iadd, 1) := by decide +kernel
theorem dX3_walk_164 : decode cX3_walk 164 = .ok (.iload 9, 2) := by decide +kernel
theorem dX3_walk_166 : decode cX3_walk 166 = .ok (.invokevirtual 122, 3) := by decide +kernel
theorem dX3_walk_169 : decode cX3_walk 169 = .ok (.iinc 7 1, 3) := by decide +kernel
theorem dX3_walk_172 : decode cX3_walk 172 = .ok (.goto (-137), 3) := by decide +kernel
theorem dX3_walk_175 : decode cX3_walk 175 = .ok (.return_, 1) := by decide +kernel
theorem dX3_entry_0 : decode cX3_entry 0 = .ok (.iload_n 1, 1) := by decide +kernel
theorem dX3_entry_1 : decode cX3_entry 1 = .ok (.bipush 6, 2) := by decide +kernel
theorem dX3_entry_3 : decode cX3_entry 3 = .ok (.imul, 1) := by decide +kernel
theorem dX3_entry_4 : decode cX3_entry 4 = .ok (.iload_n 2, 1) := by decide +kernel
theorem dX3_entry_5 : decode cX3_entry 5 = .ok (.iadd, 1) := by decide +kernel
theorem dX3_entry_6 : decode cX3_entry 6 = .ok (.bipush 24, 2) := by decide +kernel
theorem dX3_entry_8 : decode cX3_entry 8 = .ok (.imul, 1) := by decide +kernel
theorem dX3_entry_9 : decode cX3_entry 9 = .ok (.iload_n 3, 1) := by decide +kernel
theorem dX3_entry_10 : decode cX3_entry 10 = .ok (.iadd, 1) := by decide +kernel
theorem dX3_entry_11 : decode cX3_entry 11 = .ok (.ireturn, 1) := by decide +kernel
theorem dX4_init_0 : decode cX4_init 0 = .ok (.aload_n 0, 1) := by decide +kernel
theorem dX4_init_1 : decode cX4_init 1 = .ok (.invokespecial 3, 3) := by decide +kernel
theorem dX4_init_4 : decode cX4_init 4 = .ok (.aload_n 0, 1) := by decide +kernel
theorem dX4_init_5 : decode cX4_init 5 = .ok (.sipush 160, 3) := by decide +kernel
theorem dX4_init_8 : decode cX4_init 8 = .ok (.newarray .int, 2) := by decide +kernel
theorem dX4_init_10 : decode cX4_init 10 = .ok (.putfield 9, 3) := by decide +kernel
theorem dX4_init_13 : decode cX4_init 13 = .ok (.aload_n 0, 1) := by decide +kernel
theorem dX4_init_14 : decode cX4_init 14 = .ok (.sipush 161, 3) := by decide +kernel
theorem dX4_init_17 : decode cX4_init 17 = .ok (.newarray .int, 2) := by decide +kernel
theorem dX4_init_19 : decode cX4_init 19 = .ok (.putfield 15, 3) := by decide +kernel
theorem dX4_init_22 : decode cX4_init 22 = .ok (.aload_n 0, 1) := by decide +kernel
theorem dX4_init_23 : decode cX4_init 23 = .ok (.sipush 161, 3) := by decide +kernel
theorem dX4_init_26 : decode cX4_init 26 = .ok (.newarray .int, 2) := by decide +kernel
theorem dX4_init_28 : decode cX4_init 28 = .ok (.putfield 18, 3) := by decide +kernel
theorem dX4_init_31 : decode cX4_init 31 = .ok (.aload_n 0, 1) := by decide +kernel
theorem dX4_init_32 : decode cX4_init 32 = .ok (.sipush 161, 3) := by decide +kernel
theorem dX4_init_35 : decode cX4_init 35 = .ok (.newarray .int, 2) := by decide +kernel
theorem dX4_init_37 : decode cX4_init 37 = .ok (.putfield 21, 3) := by decide +kernel
theorem dX4_init_40 : decode cX4_init 40 = .ok (.aload_n 0, 1) := by decide +kernel
theorem dX4_init_41 : decode cX4_init 41 = .ok (.sipush 160, 3) := by decide +kernel
theorem dX4_init_44 : decode cX4_init 44 = .ok (.newarray .int, 2) := by decide +kernel
theorem dX4_init_46 : decode cX4_init 46 = .ok (.putfield 24, 3) := by decide +kernel
theorem dX4_init_49 : decode cX4_init 49 = .ok (.aload_n 0, 1) := by decide +kernel
theorem dX4_init_50 : decode cX4_init 50 = .ok (.iconst 3, 1) := by decide +kernel
theorem dX4_init_51 : decode cX4_init 51 = .ok (.newarray .int, 2) := by decide +kernel
theorem dX4_init_53 : decode cX4_init 53 = .ok (.putfield 27, 3) := by decide +kernel
theorem dX4_init_56 : decode cX4_init 56 = .ok (.return_, 1) := by decide +kernel
set_option maxRecDepth 20000 in
theorem ggX4_append_X7_put : GoodIn wsX4_append wsX7_put := goodIn_r _ [5] rfl (by decide +kernel)
set_option maxRecDepth 20000 in
theorem gX4_append_X7_put_n34 : GoodIn wsX4_append (wsX7_put) := ggX4_append_X7_put
theorem dX4_append_0 : decode cX4_append 0 = .ok (.aload_n 0, 1) := by decide +kernel
theorem dX4_append_1 : decode cX4_append 1 = .ok (.getfield 30, 3) := by decide +kernel
theorem dX4_append_4 : decode cX4_append 4 = .ok (.aload_n 0, 1) := by decide +kernel
theorem dX4_append_5 : decode cX4_append 5 = .ok (.getfield 9, 3) := by decide +kernel
theorem dX4_append_8 : decode cX4_append 8 = .ok (.arraylength, 1) := by decide +kernel
theorem dX4_append_9 : decode cX4_append 9 = .ok (.if_icmp .lt 5, 3) := by decide +kernel
theorem dX4_append_12 : decode cX4_append 12 = .ok (.iconst 0, 1) := by decide +kernel
theorem dX4_append_13 : decode cX4_append 13 = .ok (.ireturn, 1) := by decide +kernel
theorem dX4_append_14 : decode cX4_append 14 = .ok (.aload_n 0, 1) := by decide +kernel
theorem dX4_append_15 : decode cX4_append 15 = .ok (.getfield 9, 3) := by decide +kernel
theorem dX4_append_18 : decode cX4_append 18 = .ok (.aload_n 0, 1) := by decide +kernel
theorem dX4_append_19 : decode cX4_append 19 = .ok (.getfield 30, 3) := by decide +kernel
theorem dX4_append_22 : decode cX4_append 22 = .ok (.iload_n 1, 1) := by decide +kernel
theorem dX4_append_23 : decode cX4_append 23 = .ok (.invokestatic 34, 3) := by decide +kernel
theorem dX4_append_26 : decode cX4_append 26 = .ok (.aload_n 0, 1) := by decide +kernel
theorem dX4_append_27 : decode cX4_append 27 = .ok (.dup, 1) := by decide +kernel
theorem dX4_append_28 : decode cX4_append 28 = .ok (.getfield 30, 3) := by decide +kernel
theorem dX4_append_31 : decode cX4_append 31 = .ok (.iconst 1, 1) := by decide +kernel
theorem dX4_append_32 : decode cX4_append 32 = .ok (.iadd, 1) := by decide +kernel
theorem dX4_append_33 : decode cX4_append 33 = .ok (.putfield 30, 3) := by decide +kernel
theorem dX4_append_36 : decode cX4_append 36 = .ok (.iconst 1, 1) := by decide +kernel
theorem dX4_append_37 : decode cX4_append 37 = .ok (.ireturn, 1) := by decide +kernel
set_option maxRecDepth 20000 in
theorem ggX4_read_X4_scan : GoodIn wsX4_read wsX4_scan := goodIn_r _ [14, 15, 5, 16, 17, 18, 13, 19, 20, 21, 22, 23, 24, 25, 26, 27, 28, 29, 30, 31, 32, 33, 34, 35, 36, 37, 38, 39, 40, 41, 42, 43, 44, 45, 46, 47, 48, 49, 50, 51, 52, 53, 54, 55, 56, 57, 58, 59, 60, 61, 62, 63, 64, 65, 66, 67, 68, 69, 70, 71, 72, 73, 74, 75, 76, 77, 78, 79, 80, 81, 82, 83, 84, 85, 86, 87, 88, 89, 90, 91, 92, 93, 94, 95, 96, 97, 98, 99, 100, 101, 102, 103, 104, 105, 106, 107, 179, 180, 181, 182, 183, 184, 185, 186, 187, 188, 189] rfl (by decide +kernel)
set_option maxRecDepth 20000 in
theorem gX4_read_X4_scan : GoodIn wsX4_read (wsV RX4 38 RX4 yX4_scan wsX4_scan) := goodIn_app (goodIn_of _ (by decide +kernel)) ggX4_read_X4_scan
set_option maxRecDepth 20000 in
theorem ggX4_read_X4_expect : GoodIn wsX4_read wsX4_expect := goodIn_r _ [111, 1, 112, 113, 114, 13, 115, 3, 92, 116, 96, 117, 118, 119, 120, 121, 93, 179, 180, 181, 182, 183, 184, 185, 186, 187, 188, 189] rfl (by decide +kernel)
set_option maxRecDepth 20000 in
theorem gX4_read_X4_expect : GoodIn wsX4_read (wsV RX4 50 RX4 yX4_expect wsX4_expect) := goodIn_app (goodIn_of _ (by decide +kernel)) ggX4_read_X4_expect
set_option maxRecDepth 20000 in
theorem ggX4_read_X7_put : GoodIn wsX4_read wsX7_put := goodIn_r _ [97] rfl (by decide +kernel)
set_option maxRecDepth 20000 in
theorem gX4_read_X7_put_n34 : GoodIn wsX4_read (wsX7_put) := ggX4_read_X7_put
set_option maxRecDepth 20000 in
theorem ggX4_read_X4_readOr : GoodIn wsX4_read wsX4_readOr := goodIn_r _ [125, 1, 126, 127, 128, 13, 112, 113, 114, 115, 3, 92, 116, 96, 117, 129, 130, 131, 132, 6, 2, 95, 97, 133, 134, 135, 136, 137, 118, 119, 120, 121, 93, 138, 139, 140, 141, 94, 142, 143, 144, 122, 123, 124, 108, 109, 110, 111, 145, 146, 147, 148, 149, 179, 180, 181, 182, 183, 184, 185, 186, 187, 188, 189] rfl (by decide +kernel)
set_option maxRecDepth 20000 in
theorem gX4_read_X4_readOr : GoodIn wsX4_read (wsV RX4 54 RX4 yX4_readOr wsX4_readOr) := goodIn_app (goodIn_of _ (by decide +kernel)) ggX4_read_X4_readOr
set_option maxRecDepth 20000 in
theorem ggX4_read_X4_emit : GoodIn wsX4_read wsX4_emit := goodIn_r _ [132, 6, 2, 95, 96, 97, 179, 180, 181, 182, 183, 184, 185, 186, 187, 188, 189] rfl (by decide +kernel)
set_option maxRecDepth 20000 in
theorem gX4_read_X4_emit : GoodIn wsX4_read (wsV RX4 59 RX4 yX4_emit wsX4_emit) := goodIn_app (goodIn_of _ (by decide +kernel)) ggX4_read_X4_emit
set_option maxRecDepth 20000 in
theorem ggX4_read_J7_copyOf_59c91 : GoodIn wsX4_read wsJ7_copyOf_59c91 := goodIn_r _ [153, 154, 155, 156, 157, 158, 159, 160, 161, 162, 163, 164, 165, 166, 167, 168] rfl (by decide +kernel)
set_option maxRecDepth 20000 in
theorem gX4_read_J7_copyOf_59c91 : GoodIn wsX4_read (va_wsS RX4 62 yJ7_copyOf_59c91 wsJ7_copyOf_59c91) := goodIn_app (goodIn_of _ (by decide +kernel)) ggX4_read_J7_copyOf_59c91
set_option maxRecDepth 20000 in
theorem ggX4_read_X6_init : GoodIn wsX4_read wsX6_init := goodIn_r _ [171, 172, 173, 174, 160, 175, 176, 177, 178, 190, 191, 192, 193] rfl (by decide +kernel)
set_option maxRecDepth 20000 in
theorem gX4_read_X6_init : GoodIn wsX4_read (wsX6_init) := ggX4_read_X6_init
theorem dX4_read_0 : decode cX4_read 0 = .ok (.aload_n 0, 1) := by decide +kernel
theorem dX4_read_1 : decode cX4_read 1 = .ok (.invokevirtual 38, 3) := by decide +kernel
theorem dX4_read_4 : decode cX4_read 4 = .ok (.aload_n 0, 1) := by decide +kernel
theorem dX4_read_5 : decode cX4_read 5 = .ok (.iconst 0, 1) := by decide +kernel
theorem dX4_read_6 : decode cX4_read 6 = .ok (.putfield 41, 3) := by decide +kernel
theorem dX4_read_9 : decode cX4_read 9 = .ok (.aload_n 0, 1) := by decide +kernel
theorem dX4_read_10 : decode cX4_read 10 = .ok (.iconst 0, 1) := by decide +kernel
theorem dX4_read_11 : decode cX4_read 11 = .ok (.putfield 44, 3) := by decide +kernel
theorem dX4_read_14 : decode cX4_read 14 = .ok (.aload_n 0, 1) := by decide +kernel
theorem dX4_read_15 : decode cX4_read 15 = .ok (.iconst (-1), 1) := by decide +kernel
theorem dX4_read_16 : decode cX4_read 16 = .ok (.putfield 47, 3) := by decide +kernel
theorem dX4_read_19 : decode cX4_read 19 = .ok (.iconst 0, 1) := by decide +kernel
theorem dX4_read_20 : decode cX4_read 20 = .ok (.istore_n 2, 1) := by decide +kernel
theorem dX4_read_21 : decode cX4_read 21 = .ok (.iload_n 2, 1) := by decide +kernel
theorem dX4_read_22 : decode cX4_read 22 = .ok (.iconst 3, 1) := by decide +kernel
theorem dX4_read_23 : decode cX4_read 23 = .ok (.if_icmp .ge 45, 3) := by decide +kernel
theorem dX4_read_26 : decode cX4_read 26 = .ok (.aload_n 0, 1) := by decide +kernel
theorem dX4_read_27 : decode cX4_read 27 = .ok (.iconst 3, 1) := by decide +kernel
theorem dX4_read_28 : decode cX4_read 28 = .ok (.iload_n 2, 1) := by decide +kernel
theorem dX4_read_29 : decode cX4_read 29 = .ok (.iadd, 1) := by decide +kernel
theorem dX4_read_30 : decode cX4_read 30 = .ok (.invokevirtual 50, 3) := by decide +kernel
theorem dX4_read_33 : decode cX4_read 33 = .ok (.aload_n 0, 1) := by decide +kernel
theorem dX4_read_34 : decode cX4_read 34 = .ok (.getfield 27, 3) := by decide +kernel
theorem dX4_read_37 : decode cX4_read 37 = .ok (.iload_n 2, 1) := by decide +kernel
theorem dX4_read_38 : decode cX4_read 38 = .ok (.aload_n 0, 1) := by decide +kernel
theorem dX4_read_39 : decode cX4_read 39 = .ok (.getfield 44, 3) := by decide +kernel
theorem dX4_read_42 : decode cX4_read 42 = .ok (.invokestatic 34, 3) := by decide +kernel
theorem dX4_read_45 : decode cX4_read 45 = .ok (.aload_n 0, 1) := by decide +kernel
theorem dX4_read_46 : decode cX4_read 46 = .ok (.iconst 0, 1) := by decide +kernel
theorem dX4_read_47 : decode cX4_read 47 = .ok (.invokevirtual 54, 3) := by decide +kernel
theorem dX4_read_50 : decode cX4_read 50 = .ok (.aload_n 0, 1) := by decide +kernel
theorem dX4_read_51 : decode cX4_read 51 = .ok (.bipush 59, 2) := by decide +kernel
theorem dX4_read_53 : decode cX4_read 53 = .ok (.invokevirtual 50, 3) := by decide +kernel
theorem dX4_read_56 : decode cX4_read 56 = .ok (.aload_n 0, 1) := by decide +kernel
theorem dX4_read_57 : decode cX4_read 57 = .ok (.bipush (-59), 2) := by decide +kernel
theorem dX4_read_59 : decode cX4_read 59 = .ok (.invokevirtual 59, 3) := by decide +kernel
theorem dX4_read_62 : decode cX4_read 62 = .ok (.iinc 2 1, 3) := by decide +kernel
theorem dX4_read_65 : decode cX4_read 65 = .ok (.goto (-44), 3) := by decide +kernel
theorem dX4_read_68 : decode cX4_read 68 = .ok (.aload_n 0, 1) := by decide +kernel
theorem dX4_read_69 : decode cX4_read 69 = .ok (.iconst 0, 1) := by decide +kernel
theorem dX4_read_70 : decode cX4_read 70 = .ok (.invokevirtual 50, 3) := by decide +kernel
theorem dX4_read_73 : decode cX4_read 73 = .ok (.aload_n 0, 1) := by decide +kernel
theorem dX4_read_74 : decode cX4_read 74 = .ok (.iconst 0, 1) := by decide +kernel
theorem dX4_read_75 : decode cX4_read 75 = .ok (.putfield 30, 3) := by decide +kernel
theorem dX4_read_78 : decode cX4_read 78 = .ok (.aload_n 0, 1) := by decide +kernel
theorem dX4_read_79 : decode cX4_read 79 = .ok (.getfield 47, 3) := by decide +kernel
theorem dX4_read_82 : decode cX4_read 82 = .ok (.iconst (-1), 1) := by decide +kernel
theorem dX4_read_83 : decode cX4_read 83 = .ok (.if_icmp .ne 22, 3) := by decide +kernel
theorem dX4_read_86 : decode cX4_read 86 = .ok (.aload_n 0, 1) := by decide +kernel
theorem dX4_read_87 : decode cX4_read 87 = .ok (.getfield 44, 3) := by decide +kernel
theorem dX4_read_90 : decode cX4_read 90 = .ok (.ifCond .lt 15, 3) := by decide +kernel
theorem dX4_read_93 : decode cX4_read 93 = .ok (.aload_n 0, 1) := by decide +kernel
theorem dX4_read_94 : decode cX4_read 94 = .ok (.getfield 44, 3) := by decide +kernel
theorem dX4_read_97 : decode cX4_read 97 = .ok (.aload_n 0, 1) := by decide +kernel
theorem dX4_read_98 : decode cX4_read 98 = .ok (.getfield 24, 3) := by decide +kernel
theorem dX4_read_101 : decode cX4_read 101 = .ok (.arraylength, 1) := by decide +kernel
theorem dX4_read_102 : decode cX4_read 102 = .ok (.if_icmp .le 5, 3) := by decide +kernel
theorem dX4_read_105 : decode cX4_read 105 = .ok (.aconst_null, 1) := by decide +kernel
theorem dX4_read_106 : decode cX4_read 106 = .ok (.areturn, 1) := by decide +kernel
theorem dX4_read_107 : decode cX4_read 107 = .ok (.new 57, 3) := by decide +kernel
theorem dX4_read_110 : decode cX4_read 110 = .ok (.dup, 1) := by decide +kernel
theorem dX4_read_111 : decode cX4_read 111 = .ok (.iload_n 1, 1) := by decide +kernel
theorem dX4_read_112 : decode cX4_read 112 = .ok (.aload_n 0, 1) := by decide +kernel
theorem dX4_read_113 : decode cX4_read 113 = .ok (.getfield 24, 3) := by decide +kernel
theorem dX4_read_116 : decode cX4_read 116 = .ok (.aload_n 0, 1) := by decide +kernel
theorem dX4_read_117 : decode cX4_read 117 = .ok (.getfield 44, 3) := by decide +kernel
theorem dX4_read_120 : decode cX4_read 120 = .ok (.invokestatic 62, 3) := by decide +kernel
theorem dX4_read_123 : decode cX4_read 123 = .ok (.aload_n 0, 1) := by decide +kernel
theorem dX4_read_124 : decode cX4_read 124 = .ok (.getfield 27, 3) := by decide +kernel
theorem dX4_read_127 : decode cX4_read 127 = .ok (.iconst 3, 1) := by decide +kernel
theorem dX4_read_128 : decode cX4_read 128 = .ok (.invokestatic 62, 3) := by decide +kernel
theorem dX4_read_131 : decode cX4_read 131 = .ok (.invokespecial 68, 3) := by decide +kernel
theorem dX4_read_134 : decode cX4_read 134 = .ok (.areturn, 1) := by decide +kernel
set_option maxRecDepth 20000 in
theorem ggX4_scan_X4_scanOne : GoodIn wsX4_scan wsX4_scanOne := goodIn_r _ [7, 8, 9, 10, 6, 11, 2, 12, 13, 14, 15, 16, 17, 18, 19, 20, 21, 22, 23, 24, 25, 26, 27, 28, 29, 30, 31, 32, 33, 34, 35, 36, 37, 38, 39, 40, 41, 42, 43, 44, 45, 46, 47, 48, 49, 50, 51, 52, 53, 54, 55, 56, 57, 58, 59, 60, 61, 62, 63, 64, 65, 66, 67, 68, 69, 70, 71, 72, 73, 74, 75, 76, 77, 78, 79, 80, 1, 81, 82, 83, 84, 85, 86, 87, 88, 89, 90, 91, 92, 93, 94, 95, 96, 97, 98, 99, 100, 101, 102, 103, 104, 105, 106] rfl (by decide +kernel)
set_option maxRecDepth 20000 in
theorem gX4_scan_X4_scanOne : GoodIn wsX4_scan (wsV RX4 74 RX4 yX4_scanOne wsX4_scanOne) := goodIn_app (goodIn_of _ (by decide +kernel)) ggX4_scan_X4_scanOne
set_option maxRecDepth 20000 in
theorem ggX4_scan_X4_addToken : GoodIn wsX4_scan wsX4_addToken := goodIn_r _ [79, 80, 1, 81, 82, 83, 84, 85, 96, 97, 98, 99, 100, 101, 102, 103, 104, 105, 106] rfl (by decide +kernel)
set_option maxRecDepth 20000 in
theorem gX4_scan_X4_addToken : GoodIn wsX4_scan (wsV RX4 78 RX4 yX4_addToken wsX4_addToken) := goodIn_app (goodIn_of _ (by decide +kernel)) ggX4_scan_X4_addToken
theorem dX4_scan_0 : decode cX4_scan 0 = .ok (.aload_n 0, 1) := by decide +kernel
theorem dX4_scan_1 : decode cX4_scan 1 = .ok (.iconst 0, 1) := by decide +kernel
theorem dX4_scan_2 : decode cX4_scan 2 = .ok (.putfield 71, 3) := by decide +kernel
theorem dX4_scan_5 : decode cX4_scan 5 = .ok (.iconst 0, 1) := by decide +kernel
theorem dX4_scan_6 : decode cX4_scan 6 = .ok (.istore_n 1, 1) := by decide +kernel
theorem dX4_scan_7 : decode cX4_scan 7 = .ok (.iconst 0, 1) := by decide +kernel
theorem dX4_scan_8 : decode cX4_scan 8 = .ok (.istore_n 2, 1) := by decide +kernel
theorem dX4_scan_9 : decode cX4_scan 9 = .ok (.iload_n 2, 1) := by decide +kernel
theorem dX4_scan_10 : decode cX4_scan 10 = .ok (.aload_n 0, 1) := by decide +kernel
theorem dX4_scan_11 : decode cX4_scan 11 = .ok (.getfield 30, 3) := by decide +kernel
theorem dX4_scan_14 : decode cX4_scan 14 = .ok (.if_icmp .ge 22, 3) := by decide +kernel
theorem dX4_scan_17 : decode cX4_scan 17 = .ok (.iload_n 2, 1) := by decide +kernel
theorem dX4_scan_18 : decode cX4_scan 18 = .ok (.iload_n 1, 1) := by decide +kernel
theorem dX4_scan_19 : decode cX4_scan 19 = .ok (.if_icmp .lt 11, 3) := by decide +kernel
theorem dX4_scan_22 : decode cX4_scan 22 = .ok (.iload_n 2, 1) := by decide +kernel
theorem dX4_scan_23 : decode cX4_scan 23 = .ok (.aload_n 0, 1) := by decide +kernel
theorem dX4_scan_24 : decode cX4_scan 24 = .ok (.iload_n 2, 1) := by decide +kernel
theorem dX4_scan_25 : decode cX4_scan 25 = .ok (.invokevirtual 74, 3) := by decide +kernel
theorem dX4_scan_28 : decode cX4_scan 28 = .ok (.iadd, 1) := by decide +kernel
theorem dX4_scan_29 : decode cX4_scan 29 = .ok (.istore_n 1, 1) := by decide +kernel
theorem dX4_scan_30 : decode cX4_scan 30 = .ok (.iinc 2 1, 3) := by decide +kernel
theorem dX4_scan_33 : decode cX4_scan 33 = .ok (.goto (-24), 3) := by decide +kernel
theorem dX4_scan_36 : decode cX4_scan 36 = .ok (.aload_n 0, 1) := by decide +kernel
theorem dX4_scan_37 : decode cX4_scan 37 = .ok (.iconst 0, 1) := by decide +kernel
theorem dX4_scan_38 : decode cX4_scan 38 = .ok (.aload_n 0, 1) := by decide +kernel
theorem dX4_scan_39 : decode cX4_scan 39 = .ok (.getfield 30, 3) := by decide +kernel
theorem dX4_scan_42 : decode cX4_scan 42 = .ok (.iconst 0, 1) := by decide +kernel
theorem dX4_scan_43 : decode cX4_scan 43 = .ok (.invokevirtual 78, 3) := by decide +kernel
theorem dX4_scan_46 : decode cX4_scan 46 = .ok (.return_, 1) := by decide +kernel
set_option maxRecDepth 20000 in
theorem ggX4_scanOne_X4_byteAt : GoodIn wsX4_scanOne wsX4_byteAt := goodIn_r _ [5, 6, 7, 92, 93, 94, 95, 96, 97, 98, 99, 100, 101, 102] rfl (by decide +kernel)
set_option maxRecDepth 20000 in
theorem gX4_scanOne_X4_byteAt : GoodIn wsX4_scanOne (wsV RX4 82 RX4 yX4_byteAt wsX4_byteAt) := goodIn_app (goodIn_of _ (by decide +kernel)) ggX4_scanOne_X4_byteAt
set_option maxRecDepth 20000 in
theorem ggX4_scanOne_X4_isLetter : GoodIn wsX4_scanOne wsX4_isLetter := goodIn_r _ [10] rfl (by decide +kernel)
set_option maxRecDepth 20000 in
theorem gX4_scanOne_X4_isLetter : GoodIn wsX4_scanOne (va_wsS RX4 85 yX4_isLetter wsX4_isLetter) := goodIn_app (goodIn_of _ (by decide +kernel)) ggX4_scanOne_X4_isLetter
set_option maxRecDepth 20000 in
theorem ggX4_scanOne_X4_scanWord : GoodIn wsX4_scanOne wsX4_scanWord := goodIn_r _ [14, 6, 1, 2, 3, 4, 5, 7, 8, 9, 10, 15, 16, 17, 18, 19, 20, 21, 22, 23, 24, 25, 26, 27, 28, 29, 30, 31, 32, 33, 34, 35, 36, 37, 38, 39, 40, 41, 42, 43, 44, 45, 46, 47, 48, 49, 50, 51, 52, 53, 54, 55, 56, 57, 58, 59, 60, 61, 62, 63, 64, 65, 66, 67, 68, 69, 70, 71, 72, 73, 74, 75, 76, 77, 78, 79, 80, 81, 92, 93, 94, 95, 96, 97, 98, 99, 100, 101, 102] rfl (by decide +kernel)
set_option maxRecDepth 20000 in
theorem gX4_scanOne_X4_scanWord : GoodIn wsX4_scanOne (wsV RX4 89 RX4 yX4_scanWord wsX4_scanWord) := goodIn_app (goodIn_of _ (by decide +kernel)) ggX4_scanOne_X4_scanWord
set_option maxRecDepth 20000 in
theorem ggX4_scanOne_X4_isDigit : GoodIn wsX4_scanOne wsX4_isDigit := goodIn_r _ [84] rfl (by decide +kernel)
set_option maxRecDepth 20000 in
theorem gX4_scanOne_X4_isDigit : GoodIn wsX4_scanOne (va_wsS RX4 92 yX4_isDigit wsX4_isDigit) := goodIn_app (goodIn_of _ (by decide +kernel)) ggX4_scanOne_X4_isDigit
set_option maxRecDepth 20000 in
theorem ggX4_scanOne_X4_scanNumber : GoodIn wsX4_scanOne wsX4_scanNumber := goodIn_r _ [88, 6, 1, 2, 3, 4, 5, 7, 82, 83, 84, 71, 72, 73, 74, 75, 76, 77, 78, 79, 80, 81, 92, 93, 94, 95, 96, 97, 98, 99, 100, 101, 102] rfl (by decide +kernel)
set_option maxRecDepth 20000 in
theorem gX4_scanOne_X4_scanNumber : GoodIn wsX4_scanOne (wsV RX4 95 RX4 yX4_scanNumber wsX4_scanNumber) := goodIn_app (goodIn_of _ (by decide +kernel)) ggX4_scanOne_X4_scanNumber
set_option maxRecDepth 20000 in
theorem ggX4_scanOne_X4_isSign : GoodIn wsX4_scanOne wsX4_isSign := goodIn_r _ [91] rfl (by decide +kernel)
set_option maxRecDepth 20000 in
theorem gX4_scanOne_X4_isSign : GoodIn wsX4_scanOne (va_wsS RX4 98 yX4_isSign wsX4_isSign) := goodIn_app (goodIn_of _ (by decide +kernel)) ggX4_scanOne_X4_isSign
set_option maxRecDepth 20000 in
theorem ggX4_scanOne_X4_addToken : GoodIn wsX4_scanOne wsX4_addToken := goodIn_r _ [74, 75, 76, 77, 78, 79, 80, 81, 92, 93, 94, 95, 96, 97, 98, 99, 100, 101, 102] rfl (by decide +kernel)
set_option maxRecDepth 20000 in
theorem gX4_scanOne_X4_addToken : GoodIn wsX4_scanOne (wsV RX4 78 RX4 yX4_addToken wsX4_addToken) := goodIn_app (goodIn_of _ (by decide +kernel)) ggX4_scanOne_X4_addToken
theorem dX4_scanOne_0 : decode cX4_scanOne 0 = .ok (.aload_n 0, 1) := by decide +kernel
theorem dX4_scanOne_1 : decode cX4_scanOne 1 = .ok (.iload_n 1, 1) := by decide +kernel
theorem dX4_scanOne_2 : decode cX4_scanOne 2 = .ok (.invokevirtual 82, 3) := by decide +kernel
theorem dX4_scanOne_5 : decode cX4_scanOne 5 = .ok (.istore_n 2, 1) := by decide +kernel
theorem dX4_scanOne_6 : decode cX4_scanOne 6 = .ok (.iload_n 2, 1) := by decide +kernel
theorem dX4_scanOne_7 : decode cX4_scanOne 7 = .ok (.invokestatic 85, 3) := by decide +kernel
theorem dX4_scanOne_10 : decode cX4_scanOne 10 = .ok (.ifCond .eq 9, 3) := by decide +kernel
theorem dX4_scanOne_13 : decode cX4_scanOne 13 = .ok (.aload_n 0, 1) := by decide +kernel
theorem dX4_scanOne_14 : decode cX4_scanOne 14 = .ok (.iload_n 1, 1) := by decide +kernel
theorem dX4_scanOne_15 : decode cX4_scanOne 15 = .ok (.invokevirtual 89, 3) := by decide +kernel
theorem dX4_scanOne_18 : decode cX4_scanOne 18 = .ok (.ireturn, 1) := by decide +kernel
theorem dX4_scanOne_19 : decode cX4_scanOne 19 = .ok (.iload_n 2, 1) := by decide +kernel
theorem dX4_scanOne_20 : decode cX4_scanOne 20 = .ok (.invokestatic 92, 3) := by decide +kernel
theorem dX4_scanOne_23 : decode cX4_scanOne 23 = .ok (.ifCond .eq 9, 3) := by decide +kernel
theorem dX4_scanOne_26 : decode cX4_scanOne 26 = .ok (.aload_n 0, 1) := by decide +kernel
theorem dX4_scanOne_27 : decode cX4_scanOne 27 = .ok (.iload_n 1, 1) := by decide +kernel
theorem dX4_scanOne_28 : decode cX4_scanOne 28 = .ok (.invokevirtual 95, 3) := by decide +kernel
theorem dX4_scanOne_31 : decode cX4_scanOne 31 = .ok (.ireturn, 1) := by decide +kernel
theorem dX4_scanOne_32 : decode cX4_scanOne 32 = .ok (.iload_n 2, 1) := by decide +kernel
theorem dX4_scanOne_33 : decode cX4_scanOne 33 = .ok (.bipush 32, 2) := by decide +kernel
theorem dX4_scanOne_35 : decode cX4_scanOne 35 = .ok (.if_icmp .eq 27, 3) := by decide +kernel
theorem dX4_scanOne_38 : decode cX4_scanOne 38 = .ok (.iload_n 2, 1) := by decide +kernel
theorem dX4_scanOne_39 : decode cX4_scanOne 39 = .ok (.bipush 10, 2) := by decide +kernel
theorem dX4_scanOne_41 : decode cX4_scanOne 41 = .ok (.if_icmp .eq 21, 3) := by decide +kernel
theorem dX4_scanOne_44 : decode cX4_scanOne 44 = .ok (.aload_n 0, 1) := by decide +kernel
theorem dX4_scanOne_45 : decode cX4_scanOne 45 = .ok (.iload_n 2, 1) := by decide +kernel
theorem dX4_scanOne_46 : decode cX4_scanOne 46 = .ok (.invokestatic 98, 3) := by decide +kernel
theorem dX4_scanOne_49 : decode cX4_scanOne 49 = .ok (.ifCond .eq 7, 3) := by decide +kernel
theorem dX4_scanOne_52 : decode cX4_scanOne 52 = .ok (.iload_n 2, 1) := by decide +kernel
theorem dX4_scanOne_53 : decode cX4_scanOne 53 = .ok (.goto 4, 3) := by decide +kernel
theorem dX4_scanOne_56 : decode cX4_scanOne 56 = .ok (.iconst (-1), 1) := by decide +kernel
theorem dX4_scanOne_57 : decode cX4_scanOne 57 = .ok (.iload_n 1, 1) := by decide +kernel
theorem dX4_scanOne_58 : decode cX4_scanOne 58 = .ok (.iconst 0, 1) := by decide +kernel
theorem dX4_scanOne_59 : decode cX4_scanOne 59 = .ok (.invokevirtual 78, 3) := by decide +kernel
theorem dX4_scanOne_62 : decode cX4_scanOne 62 = .ok (.iconst 1, 1) := by decide +kernel
theorem dX4_scanOne_63 : decode cX4_scanOne 63 = .ok (.ireturn, 1) := by decide +kernel
set_option maxRecDepth 20000 in
theorem ggX4_scanWord_X4_byteAt : GoodIn wsX4_scanWord wsX4_byteAt := goodIn_r _ [6, 1, 7, 78, 79, 80, 81, 82, 83, 84, 85, 86, 87, 88] rfl (by decide +kernel)
set_option maxRecDepth 20000 in
theorem gX4_scanWord_X4_byteAt : GoodIn wsX4_scanWord (wsV RX4 82 RX4 yX4_byteAt wsX4_byteAt) := goodIn_app (goodIn_of _ (by decide +kernel)) ggX4_scanWord_X4_byteAt
set_option maxRecDepth 20000 in
theorem ggX4_scanWord_X4_isLetter : GoodIn wsX4_scanWord wsX4_isLetter := goodIn_r _ [10] rfl (by decide +kernel)
set_option maxRecDepth 20000 in
theorem gX4_scanWord_X4_isLetter : GoodIn wsX4_scanWord (va_wsS RX4 85 yX4_isLetter wsX4_isLetter) := goodIn_app (goodIn_of _ (by decide +kernel)) ggX4_scanWord_X4_isLetter
set_option maxRecDepth 20000 in
theorem ggX4_scanWord_X4_wordNumber : GoodIn wsX4_scanWord wsX4_wordNumber := goodIn_r _ [14, 15, 16, 17, 18, 19, 20, 21, 22, 23, 24, 25, 26, 2, 3, 4, 5, 6, 1, 7, 27, 28, 29, 30, 31, 32, 33, 34, 35, 36, 37, 38, 39, 40, 41, 42, 43, 44, 45, 46, 47, 48, 49, 50, 51, 52, 53, 54, 55, 56, 57, 58, 59, 60, 61, 62, 63, 64, 65, 66, 78, 79, 80, 81, 82, 83, 84, 85, 86, 87, 88] rfl (by decide +kernel)
set_option maxRecDepth 20000 in
theorem gX4_scanWord_X4_wordNumber : GoodIn wsX4_scanWord (wsV RX4 101 RX4 yX4_wordNumber wsX4_wordNumber) := goodIn_app (goodIn_of _ (by decide +kernel)) ggX4_scanWord_X4_wordNumber
set_option maxRecDepth 20000 in
theorem ggX4_scanWord_X4_addToken : GoodIn wsX4_scanWord wsX4_addToken := goodIn_r _ [70, 71, 72, 73, 74, 75, 76, 77, 78, 79, 80, 81, 82, 83, 84, 85, 86, 87, 88] rfl (by decide +kernel)
set_option maxRecDepth 20000 in
theorem gX4_scanWord_X4_addToken : GoodIn wsX4_scanWord (wsV RX4 78 RX4 yX4_addToken wsX4_addToken) := goodIn_app (goodIn_of _ (by decide +kernel)) ggX4_scanWord_X4_addToken
theorem dX4_scanWord_0 : decode cX4_scanWord 0 = .ok (.iconst 0, 1) := by decide +kernel
theorem dX4_scanWord_1 : decode cX4_scanWord 1 = .ok (.istore_n 2, 1) := by decide +kernel
theorem dX4_scanWord_2 : decode cX4_scanWord 2 = .ok (.iload_n 1, 1) := by decide +kernel
theorem dX4_scanWord_3 : decode cX4_scanWord 3 = .ok (.istore_n 3, 1) := by decide +kernel
theorem dX4_scanWord_4 : decode cX4_scanWord 4 = .ok (.iload_n 3, 1) := by decide +kernel
theorem dX4_scanWord_5 : decode cX4_scanWord 5 = .ok (.aload_n 0, 1) := by decide +kernel
theorem dX4_scanWord_6 : decode cX4_scanWord 6 = .ok (.getfield 30, 3) := by decide +kernel
theorem dX4_scanWord_9 : decode cX4_scanWord 9 = .ok (.if_icmp .ge 23, 3) := by decide +kernel
theorem dX4_scanWord_12 : decode cX4_scanWord 12 = .ok (.aload_n 0, 1) := by decide +kernel
theorem dX4_scanWord_13 : decode cX4_scanWord 13 = .ok (.iload_n 3, 1) := by decide +kernel
theorem dX4_scanWord_14 : decode cX4_scanWord 14 = .ok (.invokevirtual 82, 3) := by decide +kernel
theorem dX4_scanWord_17 : decode cX4_scanWord 17 = .ok (.invokestatic 85, 3) := by decide +kernel
theorem dX4_scanWord_20 : decode cX4_scanWord 20 = .ok (.ifCond .eq 12, 3) := by decide +kernel
theorem dX4_scanWord_23 : decode cX4_scanWord 23 = .ok (.iinc 2 1, 3) := by decide +kernel
theorem dX4_scanWord_26 : decode cX4_scanWord 26 = .ok (.iinc 3 1, 3) := by decide +kernel
theorem dX4_scanWord_29 : decode cX4_scanWord 29 = .ok (.goto (-25), 3) := by decide +kernel
theorem dX4_scanWord_32 : decode cX4_scanWord 32 = .ok (.aload_n 0, 1) := by decide +kernel
theorem dX4_scanWord_33 : decode cX4_scanWord 33 = .ok (.iload_n 1, 1) := by decide +kernel
theorem dX4_scanWord_34 : decode cX4_scanWord 34 = .ok (.iload_n 2, 1) := by decide +kernel
theorem dX4_scanWord_35 : decode cX4_scanWord 35 = .ok (.invokevirtual 101, 3) := by decide +kernel
theorem dX4_scanWord_38 : decode cX4_scanWord 38 = .ok (.istore_n 3, 1) := by decide +kernel
theorem dX4_scanWord_39 : decode cX4_scanWord 39 = .ok (.iload_n 3, 1) := by decide +kernel
theorem dX4_scanWord_40 : decode cX4_scanWord 40 = .ok (.iconst (-1), 1) := by decide +kernel
theorem dX4_scanWord_41 : decode cX4_scanWord 41 = .ok (.if_icmp .ne 13, 3) := by decide +kernel
theorem dX4_scanWord_44 : decode cX4_scanWord 44 = .ok (.aload_n 0, 1) := by decide +kernel
theorem dX4_scanWord_45 : decode cX4_scanWord 45 = .ok (.iconst (-1), 1) := by decide +kernel
theorem dX4_scanWord_46 : decode cX4_scanWord 46 = .ok (.iload_n 1, 1) := by decide +kernel
theorem dX4_scanWord_47 : decode cX4_scanWord 47 = .ok (.iconst 0, 1) := by decide +kernel
theorem dX4_scanWord_48 : decode cX4_scanWord 48 = .ok (.invokevirtual 78, 3) := by decide +kernel
theorem dX4_scanWord_51 : decode cX4_scanWord 51 = .ok (.goto 34, 3) := by decide +kernel
theorem dX4_scanWord_54 : decode cX4_scanWord 54 = .ok (.iload_n 3, 1) := by decide +kernel
theorem dX4_scanWord_55 : decode cX4_scanWord 55 = .ok (.bipush 6, 2) := by decide +kernel
theorem dX4_scanWord_57 : decode cX4_scanWord 57 = .ok (.if_icmp .ge 16, 3) := by decide +kernel
theorem dX4_scanWord_60 : decode cX4_scanWord 60 = .ok (.aload_n 0, 1) := by decide +kernel
theorem dX4_scanWord_61 : decode cX4_scanWord 61 = .ok (.iconst 2, 1) := by decide +kernel
theorem dX4_scanWord_62 : decode cX4_scanWord 62 = .ok (.iload_n 1, 1) := by decide +kernel
theorem dX4_scanWord_63 : decode cX4_scanWord 63 = .ok (.bipush (-100), 2) := by decide +kernel
theorem dX4_scanWord_65 : decode cX4_scanWord 65 = .ok (.iload_n 3, 1) := by decide +kernel
theorem dX4_scanWord_66 : decode cX4_scanWord 66 = .ok (.isub, 1) := by decide +kernel
theorem dX4_scanWord_67 : decode cX4_scanWord 67 = .ok (.invokevirtual 78, 3) := by decide +kernel
theorem dX4_scanWord_70 : decode cX4_scanWord 70 = .ok (.goto 15, 3) := by decide +kernel
theorem dX4_scanWord_73 : decode cX4_scanWord 73 = .ok (.aload_n 0, 1) := by decide +kernel
theorem dX4_scanWord_74 : decode cX4_scanWord 74 = .ok (.iconst 3, 1) := by decide +kernel
theorem dX4_scanWord_75 : decode cX4_scanWord 75 = .ok (.iload_n 3, 1) := by decide +kernel
theorem dX4_scanWord_76 : decode cX4_scanWord 76 = .ok (.iadd, 1) := by decide +kernel
theorem dX4_scanWord_77 : decode cX4_scanWord 77 = .ok (.bipush 6, 2) := by decide +kernel
theorem dX4_scanWord_79 : decode cX4_scanWord 79 = .ok (.isub, 1) := by decide +kernel
theorem dX4_scanWord_80 : decode cX4_scanWord 80 = .ok (.iload_n 1, 1) := by decide +kernel
theorem dX4_scanWord_81 : decode cX4_scanWord 81 = .ok (.iconst 0, 1) := by decide +kernel
theorem dX4_scanWord_82 : decode cX4_scanWord 82 = .ok (.invokevirtual 78, 3) := by decide +kernel
theorem dX4_scanWord_85 : decode cX4_scanWord 85 = .ok (.iload_n 2, 1) := by decide +kernel
theorem dX4_scanWord_86 : decode cX4_scanWord 86 = .ok (.ireturn, 1) := by decide +kernel
set_option maxRecDepth 20000 in
theorem ggX4_scanNumber_X4_byteAt : GoodIn wsX4_scanNumber wsX4_byteAt := goodIn_r _ [6, 1, 7, 22, 23, 24, 25, 26, 27, 28, 29, 30, 31, 32] rfl (by decide +kernel)
set_option maxRecDepth 20000 in
theorem gX4_scanNumber_X4_byteAt : GoodIn wsX4_scanNumber (wsV RX4 82 RX4 yX4_byteAt wsX4_byteAt) := goodIn_app (goodIn_of _ (by decide +kernel)) ggX4_scanNumber_X4_byteAt
set_option maxRecDepth 20000 in
theorem ggX4_scanNumber_X4_isDigit : GoodIn wsX4_scanNumber wsX4_isDigit := goodIn_r _ [10] rfl (by decide +kernel)
set_option maxRecDepth 20000 in
theorem gX4_scanNumber_X4_isDigit : GoodIn wsX4_scanNumber (va_wsS RX4 92 yX4_isDigit wsX4_isDigit) := goodIn_app (goodIn_of _ (by decide +kernel)) ggX4_scanNumber_X4_isDigit
set_option maxRecDepth 20000 in
theorem ggX4_scanNumber_X4_addToken : GoodIn wsX4_scanNumber wsX4_addToken := goodIn_r _ [14, 15, 16, 17, 18, 19, 20, 21, 22, 23, 24, 25, 26, 27, 28, 29, 30, 31, 32] rfl (by decide +kernel)
set_option maxRecDepth 20000 in
theorem gX4_scanNumber_X4_addToken : GoodIn wsX4_scanNumber (wsV RX4 78 RX4 yX4_addToken wsX4_addToken) := goodIn_app (goodIn_of _ (by decide +kernel)) ggX4_scanNumber_X4_addToken
theorem dX4_scanNumber_0 : decode cX4_scanNumber 0 = .ok (.iconst 0, 1) := by decide +kernel
theorem dX4_scanNumber_1 : decode cX4_scanNumber 1 = .ok (.istore_n 2, 1) := by decide +kernel
theorem dX4_scanNumber_2 : decode cX4_scanNumber 2 = .ok (.iconst 0, 1) := by decide +kernel
theorem dX4_scanNumber_3 : decode cX4_scanNumber 3 = .ok (.istore_n 3, 1) := by decide +kernel
theorem dX4_scanNumber_4 : decode cX4_scanNumber 4 = .ok (.iload_n 1, 1) := by decide +kernel
theorem dX4_scanNumber_5 : decode cX4_scanNumber 5 = .ok (.istore 4, 2) := by decide +kernel
theorem dX4_scanNumber_7 : decode cX4_scanNumber 7 = .ok (.iload 4, 2) := by decide +kernel
theorem dX4_scanNumber_9 : decode cX4_scanNumber 9 = .ok (.aload_n 0, 1) := by decide +kernel
theorem dX4_scanNumber_10 : decode cX4_scanNumber 10 = .ok (.getfield 30, 3) := by decide +kernel
theorem dX4_scanNumber_13 : decode cX4_scanNumber 13 = .ok (.if_icmp .ge 48, 3) := by decide +kernel
theorem dX4_scanNumber_16 : decode cX4_scanNumber 16 = .ok (.aload_n 0, 1) := by decide +kernel
theorem dX4_scanNumber_17 : decode cX4_scanNumber 17 = .ok (.iload 4, 2) := by decide +kernel
theorem dX4_scanNumber_19 : decode cX4_scanNumber 19 = .ok (.invokevirtual 82, 3) := by decide +kernel
theorem dX4_scanNumber_22 : decode cX4_scanNumber 22 = .ok (.invokestatic 92, 3) := by decide +kernel
theorem dX4_scanNumber_25 : decode cX4_scanNumber 25 = .ok (.ifCond .eq 36, 3) := by decide +kernel
theorem dX4_scanNumber_28 : decode cX4_scanNumber 28 = .ok (.iload_n 2, 1) := by decide +kernel
theorem dX4_scanNumber_29 : decode cX4_scanNumber 29 = .ok (.iconst 4, 1) := by decide +kernel
theorem dX4_scanNumber_30 : decode cX4_scanNumber 30 = .ok (.if_icmp .ge 20, 3) := by decide +kernel
theorem dX4_scanNumber_33 : decode cX4_scanNumber 33 = .ok (.iload_n 3, 1) := by decide +kernel
theorem dX4_scanNumber_34 : decode cX4_scanNumber 34 = .ok (.bipush 10, 2) := by decide +kernel
theorem dX4_scanNumber_36 : decode cX4_scanNumber 36 = .ok (.imul, 1) := by decide +kernel
theorem dX4_scanNumber_37 : decode cX4_scanNumber 37 = .ok (.aload_n 0, 1) := by decide +kernel
theorem dX4_scanNumber_38 : decode cX4_scanNumber 38 = .ok (.iload 4, 2) := by decide +kernel
theorem dX4_scanNumber_40 : decode cX4_scanNumber 40 = .ok (.invokevirtual 82, 3) := by decide +kernel
theorem dX4_scanNumber_43 : decode cX4_scanNumber 43 = .ok (.iadd, 1) := by decide +kernel
theorem dX4_scanNumber_44 : decode cX4_scanNumber 44 = .ok (.bipush 48, 2) := by decide +kernel
theorem dX4_scanNumber_46 : decode cX4_scanNumber 46 = .ok (.isub, 1) := by decide +kernel
theorem dX4_scanNumber_47 : decode cX4_scanNumber 47 = .ok (.goto 4, 3) := by decide +kernel
theorem dX4_scanNumber_50 : decode cX4_scanNumber 50 = .ok (.iload_n 3, 1) := by decide +kernel
theorem dX4_scanNumber_51 : decode cX4_scanNumber 51 = .ok (.istore_n 3, 1) := by decide +kernel
theorem dX4_scanNumber_52 : decode cX4_scanNumber 52 = .ok (.iinc 2 1, 3) := by decide +kernel
theorem dX4_scanNumber_55 : decode cX4_scanNumber 55 = .ok (.iinc 4 1, 3) := by decide +kernel
theorem dX4_scanNumber_58 : decode cX4_scanNumber 58 = .ok (.goto (-51), 3) := by decide +kernel
theorem dX4_scanNumber_61 : decode cX4_scanNumber 61 = .ok (.aload_n 0, 1) := by decide +kernel
theorem dX4_scanNumber_62 : decode cX4_scanNumber 62 = .ok (.iload_n 2, 1) := by decide +kernel
theorem dX4_scanNumber_63 : decode cX4_scanNumber 63 = .ok (.iconst 4, 1) := by decide +kernel
theorem dX4_scanNumber_64 : decode cX4_scanNumber 64 = .ok (.if_icmp .gt 7, 3) := by decide +kernel
theorem dX4_scanNumber_67 : decode cX4_scanNumber 67 = .ok (.iconst 1, 1) := by decide +kernel
theorem dX4_scanNumber_68 : decode cX4_scanNumber 68 = .ok (.goto 4, 3) := by decide +kernel
theorem dX4_scanNumber_71 : decode cX4_scanNumber 71 = .ok (.iconst (-1), 1) := by decide +kernel
theorem dX4_scanNumber_72 : decode cX4_scanNumber 72 = .ok (.iload_n 1, 1) := by decide +kernel
theorem dX4_scanNumber_73 : decode cX4_scanNumber 73 = .ok (.iload_n 3, 1) := by decide +kernel
theorem dX4_scanNumber_74 : decode cX4_scanNumber 74 = .ok (.invokevirtual 78, 3) := by decide +kernel
theorem dX4_scanNumber_77 : decode cX4_scanNumber 77 = .ok (.iload_n 2, 1) := by decide +kernel
theorem dX4_scanNumber_78 : decode cX4_scanNumber 78 = .ok (.ireturn, 1) := by decide +kernel
set_option maxRecDepth 20000 in
theorem ggX4_wordNumber_J0_length_8abf5 : GoodIn wsX4_wordNumber wsJ0_length_8abf5 := goodIn_r _ [5, 6, 7, 8, 9, 4, 10, 11, 12] rfl (by decide +kernel)
set_option maxRecDepth 20000 in
theorem gX4_wordNumber_J0_length_8abf5 : GoodIn wsX4_wordNumber (wsV RX4 107 RJ0 yJ0_length_8abf5 wsJ0_length_8abf5) := goodIn_app (goodIn_of _ (by decide +kernel)) ggX4_wordNumber_J0_length_8abf5
set_option maxRecDepth 20000 in
theorem ggX4_wordNumber_X4_byteAt : GoodIn wsX4_wordNumber wsX4_byteAt := goodIn_r _ [17, 18, 19, 60, 61, 62, 63, 64, 65, 66, 67, 68, 69, 70] rfl (by decide +kernel)
set_option maxRecDepth 20000 in
theorem gX4_wordNumber_X4_byteAt : GoodIn wsX4_wordNumber (wsV RX4 82 RX4 yX4_byteAt wsX4_byteAt) := goodIn_app (goodIn_of _ (by decide +kernel)) ggX4_wordNumber_X4_byteAt
set_option maxRecDepth 20000 in
theorem ggX4_wordNumber_X4_wordLetter : GoodIn wsX4_wordNumber wsX4_wordLetter := goodIn_r _ [22, 1, 2, 3, 4, 5, 6, 7, 8, 9, 10, 11, 12, 23, 24, 25, 26, 27, 28, 29, 30, 31, 32, 33, 34, 35, 36, 37, 38, 39, 40, 41, 42, 43, 44, 45, 46, 47, 48, 49, 50, 51, 52, 53, 54, 55, 56, 57, 58, 59] rfl (by decide +kernel)
set_option maxRecDepth 20000 in
theorem gX4_wordNumber_X4_wordLetter : GoodIn wsX4_wordNumber (va_wsS RX4 112 yX4_wordLetter wsX4_wordLetter) := goodIn_app (goodIn_of _ (by decide +kernel)) ggX4_wordNumber_X4_wordLetter
theorem dX4_wordNumber_0 : decode cX4_wordNumber 0 = .ok (.iconst 0, 1) := by decide +kernel
theorem dX4_wordNumber_1 : decode cX4_wordNumber 1 = .ok (.istore_n 3, 1) := by decide +kernel
theorem dX4_wordNumber_2 : decode cX4_wordNumber 2 = .ok (.iload_n 3, 1) := by decide +kernel
theorem dX4_wordNumber_3 : decode cX4_wordNumber 3 = .ok (.ldc 105, 2) := by decide +kernel
theorem dX4_wordNumber_5 : decode cX4_wordNumber 5 = .ok (.invokevirtual 107, 3) := by decide +kernel
theorem dX4_wordNumber_8 : decode cX4_wordNumber 8 = .ok (.bipush 6, 2) := by decide +kernel
theorem dX4_wordNumber_10 : decode cX4_wordNumber 10 = .ok (.idiv, 1) := by decide +kernel
theorem dX4_wordNumber_11 : decode cX4_wordNumber 11 = .ok (.if_icmp .ge 89, 3) := by decide +kernel
theorem dX4_wordNumber_14 : decode cX4_wordNumber 14 = .ok (.iconst 0, 1) := by decide +kernel
theorem dX4_wordNumber_15 : decode cX4_wordNumber 15 = .ok (.istore 4, 2) := by decide +kernel
theorem dX4_wordNumber_17 : decode cX4_wordNumber 17 = .ok (.iconst 0, 1) := by decide +kernel
theorem dX4_wordNumber_18 : decode cX4_wordNumber 18 = .ok (.istore 5, 2) := by decide +kernel
theorem dX4_wordNumber_20 : decode cX4_wordNumber 20 = .ok (.iload 5, 2) := by decide +kernel
theorem dX4_wordNumber_22 : decode cX4_wordNumber 22 = .ok (.bipush 6, 2) := by decide +kernel
theorem dX4_wordNumber_24 : decode cX4_wordNumber 24 = .ok (.if_icmp .ge 55, 3) := by decide +kernel
theorem dX4_wordNumber_27 : decode cX4_wordNumber 27 = .ok (.iload 5, 2) := by decide +kernel
theorem dX4_wordNumber_29 : decode cX4_wordNumber 29 = .ok (.iload_n 2, 1) := by decide +kernel
theorem dX4_wordNumber_30 : decode cX4_wordNumber 30 = .ok (.if_icmp .ge 14, 3) := by decide +kernel
theorem dX4_wordNumber_33 : decode cX4_wordNumber 33 = .ok (.aload_n 0, 1) := by decide +kernel
theorem dX4_wordNumber_34 : decode cX4_wordNumber 34 = .ok (.iload_n 1, 1) := by decide +kernel
theorem dX4_wordNumber_35 : decode cX4_wordNumber 35 = .ok (.iload 5, 2) := by decide +kernel
theorem dX4_wordNumber_37 : decode cX4_wordNumber 37 = .ok (.iadd, 1) := by decide +kernel
theorem dX4_wordNumber_38 : decode cX4_wordNumber 38 = .ok (.invokevirtual 82, 3) := by decide +kernel
theorem dX4_wordNumber_41 : decode cX4_wordNumber 41 = .ok (.goto 5, 3) := by decide +kernel
theorem dX4_wordNumber_44 : decode cX4_wordNumber 44 = .ok (.bipush 32, 2) := by decide +kernel
theorem dX4_wordNumber_46 : decode cX4_wordNumber 46 = .ok (.istore 6, 2) := by decide +kernel
theorem dX4_wordNumber_48 : decode cX4_wordNumber 48 = .ok (.iload 4, 2) := by decide +kernel
theorem dX4_wordNumber_50 : decode cX4_wordNumber 50 = .ok (.iload_n 3, 1) := by decide +kernel
theorem dX4_wordNumber_51 : decode cX4_wordNumber 51 = .ok (.bipush 6, 2) := by decide +kernel
theorem dX4_wordNumber_53 : decode cX4_wordNumber 53 = .ok (.imul, 1) := by decide +kernel
theorem dX4_wordNumber_54 : decode cX4_wordNumber 54 = .ok (.iload 5, 2) := by decide +kernel
theorem dX4_wordNumber_56 : decode cX4_wordNumber 56 = .ok (.iadd, 1) := by decide +kernel
theorem dX4_wordNumber_57 : decode cX4_wordNumber 57 = .ok (.invokestatic 112, 3) := by decide +kernel
theorem dX4_wordNumber_60 : decode cX4_wordNumber 60 = .ok (.iload 6, 2) := by decide +kernel
theorem dX4_wordNumber_62 : decode cX4_wordNumber 62 = .ok (.if_icmp .ne 7, 3) := by decide +kernel
theorem dX4_wordNumber_65 : decode cX4_wordNumber 65 = .ok (.iconst 1, 1) := by decide +kernel
theorem dX4_wordNumber_66 : decode cX4_wordNumber 66 = .ok (.goto 4, 3) := by decide +kernel
theorem dX4_wordNumber_69 : decode cX4_wordNumber 69 = .ok (.iconst 0, 1) := by decide +kernel
theorem dX4_wordNumber_70 : decode cX4_wordNumber 70 = .ok (.iadd, 1) := by decide +kernel
theorem dX4_wordNumber_71 : decode cX4_wordNumber 71 = .ok (.istore 4, 2) := by decide +kernel
theorem dX4_wordNumber_73 : decode cX4_wordNumber 73 = .ok (.iinc 5 1, 3) := by decide +kernel
theorem dX4_wordNumber_76 : decode cX4_wordNumber 76 = .ok (.goto (-56), 3) := by decide +kernel
theorem dX4_wordNumber_79 : decode cX4_wordNumber 79 = .ok (.iload 4, 2) := by decide +kernel
theorem dX4_wordNumber_81 : decode cX4_wordNumber 81 = .ok (.bipush 6, 2) := by decide +kernel
theorem dX4_wordNumber_83 : decode cX4_wordNumber 83 = .ok (.if_icmp .ne 11, 3) := by decide +kernel
theorem dX4_wordNumber_86 : decode cX4_wordNumber 86 = .ok (.iload_n 2, 1) := by decide +kernel
theorem dX4_wordNumber_87 : decode cX4_wordNumber 87 = .ok (.bipush 6, 2) := by decide +kernel
theorem dX4_wordNumber_89 : decode cX4_wordNumber 89 = .ok (.if_icmp .gt 5, 3) := by decide +kernel
theorem dX4_wordNumber_92 : decode cX4_wordNumber 92 = .ok (.iload_n 3, 1) := by decide +kernel
theorem dX4_wordNumber_93 : decode cX4_wordNumber 93 = .ok (.ireturn, 1) := by decide +kernel
theorem dX4_wordNumber_94 : decode cX4_wordNumber 94 = .ok (.iinc 3 1, 3) := by decide +kernel
theorem dX4_wordNumber_97 : decode cX4_wordNumber 97 = .ok (.goto (-95), 3) := by decide +kernel
theorem dX4_wordNumber_100 : decode cX4_wordNumber 100 = .ok (.iconst (-1), 1) := by decide +kernel
theorem dX4_wordNumber_101 : decode cX4_wordNumber 101 = .ok (.ireturn, 1) := by decide +kernel
set_option maxRecDepth 20000 in
theorem ggX4_wordLetter_J0_length_8abf5 : GoodIn wsX4_wordLetter wsJ0_length_8abf5 := goodIn_r _ [5, 6, 7, 8, 9, 4, 10, 11, 12] rfl (by decide +kernel)
set_option maxRecDepth 20000 in
theorem gX4_wordLetter_J0_length_8abf5 : GoodIn wsX4_wordLetter (wsV RX4 107 RJ0 yJ0_length_8abf5 wsJ0_length_8abf5) := goodIn_app (goodIn_of _ (by decide +kernel)) ggX4_wordLetter_J0_length_8abf5
set_option maxRecDepth 20000 in
theorem ggX4_wordLetter_J0_charAt_5068e : GoodIn wsX4_wordLetter wsJ0_charAt_5068e := goodIn_r _ [16, 6, 17, 18, 19, 4, 20, 11, 12, 21, 22, 23, 24, 25, 26, 27, 28, 29, 30, 31, 32, 33, 34, 35, 36, 37, 38, 39, 40, 41, 42, 43, 44, 45, 46, 47, 48, 49] rfl (by decide +kernel)
set_option maxRecDepth 20000 in
theorem gX4_wordLetter_J0_charAt_5068e : GoodIn wsX4_wordLetter (wsV RX4 115 RJ0 yJ0_charAt_5068e wsJ0_charAt_5068e) := goodIn_app (goodIn_of _ (by decide +kernel)) ggX4_wordLetter_J0_charAt_5068e
theorem dX4_wordLetter_0 : decode cX4_wordLetter 0 = .ok (.iload_n 0, 1) := by decide +kernel
theorem dX4_wordLetter_1 : decode cX4_wordLetter 1 = .ok (.ifCond .lt 21, 3) := by decide +kernel
theorem dX4_wordLetter_4 : decode cX4_wordLetter 4 = .ok (.iload_n 0, 1) := by decide +kernel
theorem dX4_wordLetter_5 : decode cX4_wordLetter 5 = .ok (.ldc 105, 2) := by decide +kernel
theorem dX4_wordLetter_7 : decode cX4_wordLetter 7 = .ok (.invokevirtual 107, 3) := by decide +kernel
theorem dX4_wordLetter_10 : decode cX4_wordLetter 10 = .ok (.if_icmp .ge 12, 3) := by decide +kernel
theorem dX4_wordLetter_13 : decode cX4_wordLetter 13 = .ok (.ldc 105, 2) := by decide +kernel
theorem dX4_wordLetter_15 : decode cX4_wordLetter 15 = .ok (.iload_n 0, 1) := by decide +kernel
theorem dX4_wordLetter_16 : decode cX4_wordLetter 16 = .ok (.invokevirtual 115, 3) := by decide +kernel
theorem dX4_wordLetter_19 : decode cX4_wordLetter 19 = .ok (.goto 4, 3) := by decide +kernel
theorem dX4_wordLetter_22 : decode cX4_wordLetter 22 = .ok (.iconst (-1), 1) := by decide +kernel
theorem dX4_wordLetter_23 : decode cX4_wordLetter 23 = .ok (.ireturn, 1) := by decide +kernel
set_option maxRecDepth 20000 in
theorem ggX4_addToken_X7_put : GoodIn wsX4_addToken wsX7_put := goodIn_r _ [7] rfl (by decide +kernel)
set_option maxRecDepth 20000 in
theorem gX4_addToken_X7_put_n34 : GoodIn wsX4_addToken (wsX7_put) := ggX4_addToken_X7_put
theorem dX4_addToken_0 : decode cX4_addToken 0 = .ok (.aload_n 0, 1) := by decide +kernel
theorem dX4_addToken_1 : decode cX4_addToken 1 = .ok (.getfield 15, 3) := by decide +kernel
theorem dX4_addToken_4 : decode cX4_addToken 4 = .ok (.aload_n 0, 1) := by decide +kernel
theorem dX4_addToken_5 : decode cX4_addToken 5 = .ok (.getfield 71, 3) := by decide +kernel
theorem dX4_addToken_8 : decode cX4_addToken 8 = .ok (.iload_n 1, 1) := by decide +kernel
theorem dX4_addToken_9 : decode cX4_addToken 9 = .ok (.invokestatic 34, 3) := by decide +kernel
theorem dX4_addToken_12 : decode cX4_addToken 12 = .ok (.aload_n 0, 1) := by decide +kernel
theorem dX4_addToken_13 : decode cX4_addToken 13 = .ok (.getfield 18, 3) := by decide +kernel
theorem dX4_addToken_16 : decode cX4_addToken 16 = .ok (.aload_n 0, 1) := by decide +kernel
theorem dX4_addToken_17 : decode cX4_addToken 17 = .ok (.getfield 71, 3) := by decide +kernel
theorem dX4_addToken_20 : decode cX4_addToken 20 = .ok (.iload_n 2, 1) := by decide +kernel
theorem dX4_addToken_21 : decode cX4_addToken 21 = .ok (.invokestatic 34, 3) := by decide +kernel
theorem dX4_addToken_24 : decode cX4_addToken 24 = .ok (.aload_n 0, 1) := by decide +kernel
theorem dX4_addToken_25 : decode cX4_addToken 25 = .ok (.getfield 21, 3) := by decide +kernel
theorem dX4_addToken_28 : decode cX4_addToken 28 = .ok (.aload_n 0, 1) := by decide +kernel
theorem dX4_addToken_29 : decode cX4_addToken 29 = .ok (.getfield 71, 3) := by decide +kernel
theorem dX4_addToken_32 : decode cX4_addToken 32 = .ok (.iload_n 3, 1) := by decide +kernel
theorem dX4_addToken_33 : decode cX4_addToken 33 = .ok (.invokestatic 34, 3) := by decide +kernel
theorem dX4_addToken_36 : decode cX4_addToken 36 = .ok (.aload_n 0, 1) := by decide +kernel
theorem dX4_addToken_37 : decode cX4_addToken 37 = .ok (.dup, 1) := by decide +kernel
theorem dX4_addToken_38 : decode cX4_addToken 38 = .ok (.getfield 71, 3) := by decide +kernel
theorem dX4_addToken_41 : decode cX4_addToken 41 = .ok (.iconst 1, 1) := by decide +kernel
theorem dX4_addToken_42 : decode cX4_addToken 42 = .ok (.iadd, 1) := by decide +kernel
theorem dX4_addToken_43 : decode cX4_addToken 43 = .ok (.putfield 71, 3) := by decide +kernel
theorem dX4_addToken_46 : decode cX4_addToken 46 = .ok (.return_, 1) := by decide +kernel
theorem dX4_byteAt_0 : decode cX4_byteAt 0 = .ok (.iload_n 1, 1) := by decide +kernel
theorem dX4_byteAt_1 : decode cX4_byteAt 1 = .ok (.ifCond .lt 29, 3) := by decide +kernel
theorem dX4_byteAt_4 : decode cX4_byteAt 4 = .ok (.iload_n 1, 1) := by decide +kernel
theorem dX4_byteAt_5 : decode cX4_byteAt 5 = .ok (.aload_n 0, 1) := by decide +kernel
theorem dX4_byteAt_6 : decode cX4_byteAt 6 = .ok (.getfield 30, 3) := by decide +kernel
theorem dX4_byteAt_9 : decode cX4_byteAt 9 = .ok (.if_icmp .ge 21, 3) := by decide +kernel
theorem dX4_byteAt_12 : decode cX4_byteAt 12 = .ok (.iload_n 1, 1) := by decide +kernel
theorem dX4_byteAt_13 : decode cX4_byteAt 13 = .ok (.aload_n 0, 1) := by decide +kernel
theorem dX4_byteAt_14 : decode cX4_byteAt 14 = .ok (.getfield 9, 3) := by decide +kernel
theorem dX4_byteAt_17 : decode cX4_byteAt 17 = .ok (.arraylength, 1) := by decide +kernel
theorem dX4_byteAt_18 : decode cX4_byteAt 18 = .ok (.if_icmp .ge 12, 3) := by decide +kernel
theorem dX4_byteAt_21 : decode cX4_byteAt 21 = .ok (.aload_n 0, 1) := by decide +kernel
theorem dX4_byteAt_22 : decode cX4_byteAt 22 = .ok (.getfield 9, 3) := by decide +kernel
theorem dX4_byteAt_25 : decode cX4_byteAt 25 = .ok (.iload_n 1, 1) := by decide +kernel
theorem dX4_byteAt_26 : decode cX4_byteAt 26 = .ok (.iaload, 1) := by decide +kernel
theorem dX4_byteAt_27 : decode cX4_byteAt 27 = .ok (.goto 4, 3) := by decide +kernel
theorem dX4_byteAt_30 : decode cX4_byteAt 30 = .ok (.iconst (-1), 1) := by decide +kernel
theorem dX4_byteAt_31 : decode cX4_byteAt 31 = .ok (.ireturn, 1) := by decide +kernel
theorem dX4_isLetter_0 : decode cX4_isLetter 0 = .ok (.iload_n 0, 1) := by decide +kernel
theorem dX4_isLetter_1 : decode cX4_isLetter 1 = .ok (.bipush 97, 2) := by decide +kernel
theorem dX4_isLetter_3 : decode cX4_isLetter 3 = .ok (.if_icmp .lt 13, 3) := by decide +kernel
theorem dX4_isLetter_6 : decode cX4_isLetter 6 = .ok (.iload_n 0, 1) := by decide +kernel
theorem dX4_isLetter_7 : decode cX4_isLetter 7 = .ok (.bipush 122, 2) := by decide +kernel
theorem dX4_isLetter_9 : decode cX4_isLetter 9 = .ok (.if_icmp .gt 7, 3) := by decide +kernel
theorem dX4_isLetter_12 : decode cX4_isLetter 12 = .ok (.iconst 1, 1) := by decide +kernel
theorem dX4_isLetter_13 : decode cX4_isLetter 13 = .ok (.goto 4, 3) := by decide +kernel
theorem dX4_isLetter_16 : decode cX4_isLetter 16 = .ok (.iconst 0, 1) := by decide +kernel
theorem dX4_isLetter_17 : decode cX4_isLetter 17 = .ok (.ireturn, 1) := by decide +kernel
theorem dX4_isDigit_0 : decode cX4_isDigit 0 = .ok (.iload_n 0, 1) := by decide +kernel
theorem dX4_isDigit_1 : decode cX4_isDigit 1 = .ok (.bipush 48, 2) := by decide +kernel
theorem dX4_isDigit_3 : decode cX4_isDigit 3 = .ok (.if_icmp .lt 13, 3) := by decide +kernel
theorem dX4_isDigit_6 : decode cX4_isDigit 6 = .ok (.iload_n 0, 1) := by decide +kernel
theorem dX4_isDigit_7 : decode cX4_isDigit 7 = .ok (.bipush 57, 2) := by decide +kernel
theorem dX4_isDigit_9 : decode cX4_isDigit 9 = .ok (.if_icmp .gt 7, 3) := by decide +kernel
theorem dX4_isDigit_12 : decode cX4_isDigit 12 = .ok (.iconst 1, 1) := by decide +kernel
theorem dX4_isDigit_13 : decode cX4_isDigit 13 = .ok (.goto 4, 3) := by decide +kernel
theorem dX4_isDigit_16 : decode cX4_isDigit 16 = .ok (.iconst 0, 1) := by decide +kernel
theorem dX4_isDigit_17 : decode cX4_isDigit 17 = .ok (.ireturn, 1) := by decide +kernel
theorem dX4_isSign_0 : decode cX4_isSign 0 = .ok (.iload_n 0, 1) := by decide +kernel
theorem dX4_isSign_1 : decode cX4_isSign 1 = .ok (.bipush 40, 2) := by decide +kernel
theorem dX4_isSign_3 : decode cX4_isSign 3 = .ok (.if_icmp .lt 9, 3) := by decide +kernel
theorem dX4_isSign_6 : decode cX4_isSign 6 = .ok (.iload_n 0, 1) := by decide +kernel
theorem dX4_isSign_7 : decode cX4_isSign 7 = .ok (.bipush 43, 2) := by decide +kernel
theorem dX4_isSign_9 : decode cX4_isSign 9 = .ok (.if_icmp .le 21, 3) := by decide +kernel
theorem dX4_isSign_12 : decode cX4_isSign 12 = .ok (.iload_n 0, 1) := by decide +kernel
theorem dX4_isSign_13 : decode cX4_isSign 13 = .ok (.bipush 45, 2) := by decide +kernel
theorem dX4_isSign_15 : decode cX4_isSign 15 = .ok (.if_icmp .eq 15, 3) := by decide +kernel
theorem dX4_isSign_18 : decode cX4_isSign 18 = .ok (.iload_n 0, 1) := by decide +kernel
theorem dX4_isSign_19 : decode cX4_isSign 19 = .ok (.bipush 59, 2) := by decide +kernel
theorem dX4_isSign_21 : decode cX4_isSign 21 = .ok (.if_icmp .lt 13, 3) := by decide +kernel
theorem dX4_isSign_24 : decode cX4_isSign 24 = .ok (.iload_n 0, 1) := by decide +kernel
theorem dX4_isSign_25 : decode cX4_isSign 25 = .ok (.bipush 61, 2) := by decide +kernel
theorem dX4_isSign_27 : decode cX4_isSign 27 = .ok (.if_icmp .gt 7, 3) := by decide +kernel
theorem dX4_isSign_30 : decode cX4_isSign 30 = .ok (.iconst 1, 1) := by decide +kernel
theorem dX4_isSign_31 : decode cX4_isSign 31 = .ok (.goto 4, 3) := by decide +kernel
theorem dX4_isSign_34 : decode cX4_isSign 34 = .ok (.iconst 0, 1) := by decide +kernel
theorem dX4_isSign_35 : decode cX4_isSign 35 = .ok (.ireturn, 1) := by decide +kernel
set_option maxRecDepth 20000 in
theorem ggX4_token_X7_at : GoodIn wsX4_token wsX7_at := goodIn_r _ [6] rfl (by decide +kernel)
set_option maxRecDepth 20000 in
theorem gX4_token_X7_at_n119 : GoodIn wsX4_token (wsX7_at) := ggX4_token_X7_at
theorem dX4_token_0 : decode cX4_token 0 = .ok (.aload_n 0, 1) := by decide +kernel
theorem dX4_token_1 : decode cX4_token 1 = .ok (.getfield 47, 3) := by decide +kernel
theorem dX4_token_4 : decode cX4_token 4 = .ok (.iconst (-1), 1) := by decide +kernel
theorem dX4_token_5 : decode cX4_token 5 = .ok (.if_icmp .ne 17, 3) := by decide +kernel
theorem dX4_token_8 : decode cX4_token 8 = .ok (.aload_n 0, 1) := by decide +kernel
theorem dX4_token_9 : decode cX4_token 9 = .ok (.getfield 15, 3) := by decide +kernel
theorem dX4_token_12 : decode cX4_token 12 = .ok (.aload_n 0, 1) := by decide +kernel
theorem dX4_token_13 : decode cX4_token 13 = .ok (.getfield 41, 3) := by decide +kernel
theorem dX4_token_16 : decode cX4_token 16 = .ok (.invokestatic 119, 3) := by decide +kernel
theorem dX4_token_19 : decode cX4_token 19 = .ok (.goto 4, 3) := by decide +kernel
theorem dX4_token_22 : decode cX4_token 22 = .ok (.iconst (-1), 1) := by decide +kernel
theorem dX4_token_23 : decode cX4_token 23 = .ok (.ireturn, 1) := by decide +kernel
set_option maxRecDepth 20000 in
theorem ggX4_fail_X7_at : GoodIn wsX4_fail wsX7_at := goodIn_r _ [6] rfl (by decide +kernel)
set_option maxRecDepth 20000 in
theorem gX4_fail_X7_at_n119 : GoodIn wsX4_fail (wsX7_at) := ggX4_fail_X7_at
theorem dX4_fail_0 : decode cX4_fail 0 = .ok (.aload_n 0, 1) := by decide +kernel
theorem dX4_fail_1 : decode cX4_fail 1 = .ok (.getfield 47, 3) := by decide +kernel
theorem dX4_fail_4 : decode cX4_fail 4 = .ok (.iconst (-1), 1) := by decide +kernel
theorem dX4_fail_5 : decode cX4_fail 5 = .ok (.if_icmp .ne 18, 3) := by decide +kernel
theorem dX4_fail_8 : decode cX4_fail 8 = .ok (.aload_n 0, 1) := by decide +kernel
theorem dX4_fail_9 : decode cX4_fail 9 = .ok (.aload_n 0, 1) := by decide +kernel
theorem dX4_fail_10 : decode cX4_fail 10 = .ok (.getfield 18, 3) := by decide +kernel
theorem dX4_fail_13 : decode cX4_fail 13 = .ok (.aload_n 0, 1) := by decide +kernel
theorem dX4_fail_14 : decode cX4_fail 14 = .ok (.getfield 41, 3) := by decide +kernel
theorem dX4_fail_17 : decode cX4_fail 17 = .ok (.invokestatic 119, 3) := by decide +kernel
theorem dX4_fail_20 : decode cX4_fail 20 = .ok (.putfield 47, 3) := by decide +kernel
theorem dX4_fail_23 : decode cX4_fail 23 = .ok (.return_, 1) := by decide +kernel
set_option maxRecDepth 20000 in
theorem ggX4_expect_X4_token : GoodIn wsX4_expect wsX4_token := goodIn_r _ [6, 7, 8, 1, 9, 10, 11, 17, 18, 19, 20, 21, 22, 23, 24, 25, 26, 27] rfl (by decide +kernel)
set_option maxRecDepth 20000 in
theorem gX4_expect_X4_token : GoodIn wsX4_expect (wsV RX4 123 RX4 yX4_token wsX4_token) := goodIn_app (goodIn_of _ (by decide +kernel)) ggX4_expect_X4_token
set_option maxRecDepth 20000 in
theorem ggX4_expect_X4_fail : GoodIn wsX4_expect wsX4_fail := goodIn_r _ [15, 7, 16, 1, 9, 10, 11, 17, 18, 19, 20, 21, 22, 23, 24, 25, 26, 27] rfl (by decide +kernel)
set_option maxRecDepth 20000 in
theorem gX4_expect_X4_fail : GoodIn wsX4_expect (wsV RX4 126 RX4 yX4_fail wsX4_fail) := goodIn_app (goodIn_of _ (by decide +kernel)) ggX4_expect_X4_fail
theorem dX4_expect_0 : decode cX4_expect 0 = .ok (.aload_n 0, 1) := by decide +kernel
theorem dX4_expect_1 : decode cX4_expect 1 = .ok (.invokevirtual 123, 3) := by decide +kernel
theorem dX4_expect_4 : decode cX4_expect 4 = .ok (.iload_n 1, 1) := by decide +kernel
theorem dX4_expect_5 : decode cX4_expect 5 = .ok (.if_icmp .ne 16, 3) := by decide +kernel
theorem dX4_expect_8 : decode cX4_expect 8 = .ok (.aload_n 0, 1) := by decide +kernel
theorem dX4_expect_9 : decode cX4_expect 9 = .ok (.dup, 1) := by decide +kernel
theorem dX4_expect_10 : decode cX4_expect 10 = .ok (.getfield 41, 3) := by decide +kernel
theorem dX4_expect_13 : decode cX4_expect 13 = .ok (.iconst 1, 1) := by decide +kernel
theorem dX4_expect_14 : decode cX4_expect 14 = .ok (.iadd, 1) := by decide +kernel
theorem dX4_expect_15 : decode cX4_expect 15 = .ok (.putfield 41, 3) := by decide +kernel
theorem dX4_expect_18 : decode cX4_expect 18 = .ok (.goto 7, 3) := by decide +kernel
theorem dX4_expect_21 : decode cX4_expect 21 = .ok (.aload_n 0, 1) := by decide +kernel
theorem dX4_expect_22 : decode cX4_expect 22 = .ok (.invokevirtual 126, 3) := by decide +kernel
theorem dX4_expect_25 : decode cX4_expect 25 = .ok (.return_, 1) := by decide +kernel
set_option maxRecDepth 20000 in
theorem ggX4_emit_X7_put : GoodIn wsX4_emit wsX7_put := goodIn_r _ [5] rfl (by decide +kernel)
set_option maxRecDepth 20000 in
theorem gX4_emit_X7_put_n34 : GoodIn wsX4_emit (wsX7_put) := ggX4_emit_X7_put
theorem dX4_emit_0 : decode cX4_emit 0 = .ok (.aload_n 0, 1) := by decide +kernel
theorem dX4_emit_1 : decode cX4_emit 1 = .ok (.getfield 24, 3) := by decide +kernel
theorem dX4_emit_4 : decode cX4_emit 4 = .ok (.aload_n 0, 1) := by decide +kernel
theorem dX4_emit_5 : decode cX4_emit 5 = .ok (.getfield 44, 3) := by decide +kernel
theorem dX4_emit_8 : decode cX4_emit 8 = .ok (.iload_n 1, 1) := by decide +kernel
theorem dX4_emit_9 : decode cX4_emit 9 = .ok (.invokestatic 34, 3) := by decide +kernel
theorem dX4_emit_12 : decode cX4_emit 12 = .ok (.aload_n 0, 1) := by decide +kernel
theorem dX4_emit_13 : decode cX4_emit 13 = .ok (.dup, 1) := by decide +kernel
theorem dX4_emit_14 : decode cX4_emit 14 = .ok (.getfield 44, 3) := by decide +kernel
theorem dX4_emit_17 : decode cX4_emit 17 = .ok (.iconst 1, 1) := by decide +kernel
theorem dX4_emit_18 : decode cX4_emit 18 = .ok (.iadd, 1) := by decide +kernel
theorem dX4_emit_19 : decode cX4_emit 19 = .ok (.putfield 44, 3) := by decide +kernel
theorem dX4_emit_22 : decode cX4_emit 22 = .ok (.return_, 1) := by decide +kernel
set_option maxRecDepth 20000 in
theorem ggX4_readOr_X4_readAnd : GoodIn wsX4_readOr wsX4_readAnd := goodIn_r _ [23, 1, 24, 25, 26, 5, 6, 7, 8, 9, 10, 11, 12, 13, 14, 15, 16, 17, 18, 19, 20, 21, 22, 27, 28, 29, 30, 31, 32, 33, 34, 35, 36, 37, 38, 39, 40, 41, 42, 43, 44, 45, 46, 47, 0, 2, 3, 4, 48, 49, 50, 51, 52, 53, 54, 55, 56, 57, 58, 59, 60, 61, 62, 63] rfl (by decide +kernel)
set_option maxRecDepth 20000 in
theorem gX4_readOr_X4_readAnd : GoodIn wsX4_readOr (wsV RX4 129 RX4 yX4_readAnd wsX4_readAnd) := goodIn_app (goodIn_of _ (by decide +kernel)) ggX4_readOr_X4_readAnd
set_option maxRecDepth 20000 in
theorem ggX4_readOr_X4_token : GoodIn wsX4_readOr wsX4_token := goodIn_r _ [9, 10, 11, 1, 12, 13, 14, 53, 54, 55, 56, 57, 58, 59, 60, 61, 62, 63] rfl (by decide +kernel)
set_option maxRecDepth 20000 in
theorem gX4_readOr_X4_token : GoodIn wsX4_readOr (wsV RX4 123 RX4 yX4_token wsX4_token) := goodIn_app (goodIn_of _ (by decide +kernel)) ggX4_readOr_X4_token
set_option maxRecDepth 20000 in
theorem ggX4_readOr_X4_emit : GoodIn wsX4_readOr wsX4_emit := goodIn_r _ [18, 19, 20, 21, 13, 22, 53, 54, 55, 56, 57, 58, 59, 60, 61, 62, 63] rfl (by decide +kernel)
set_option maxRecDepth 20000 in
theorem gX4_readOr_X4_emit : GoodIn wsX4_readOr (wsV RX4 59 RX4 yX4_emit wsX4_emit) := goodIn_app (goodIn_of _ (by decide +kernel)) ggX4_readOr_X4_emit
theorem dX4_readOr_0 : decode cX4_readOr 0 = .ok (.aload_n 0, 1) := by decide +kernel
theorem dX4_readOr_1 : decode cX4_readOr 1 = .ok (.iload_n 1, 1) := by decide +kernel
theorem dX4_readOr_2 : decode cX4_readOr 2 = .ok (.invokevirtual 129, 3) := by decide +kernel
theorem dX4_readOr_5 : decode cX4_readOr 5 = .ok (.iconst 0, 1) := by decide +kernel
theorem dX4_readOr_6 : decode cX4_readOr 6 = .ok (.istore_n 2, 1) := by decide +kernel
theorem dX4_readOr_7 : decode cX4_readOr 7 = .ok (.iload_n 2, 1) := by decide +kernel
theorem dX4_readOr_8 : decode cX4_readOr 8 = .ok (.sipush 160, 3) := by decide +kernel
theorem dX4_readOr_11 : decode cX4_readOr 11 = .ok (.if_icmp .ge 39, 3) := by decide +kernel
theorem dX4_readOr_14 : decode cX4_readOr 14 = .ok (.aload_n 0, 1) := by decide +kernel
theorem dX4_readOr_15 : decode cX4_readOr 15 = .ok (.invokevirtual 123, 3) := by decide +kernel
theorem dX4_readOr_18 : decode cX4_readOr 18 = .ok (.bipush 6, 2) := by decide +kernel
theorem dX4_readOr_20 : decode cX4_readOr 20 = .ok (.if_icmp .ne 30, 3) := by decide +kernel
theorem dX4_readOr_23 : decode cX4_readOr 23 = .ok (.aload_n 0, 1) := by decide +kernel
theorem dX4_readOr_24 : decode cX4_readOr 24 = .ok (.dup, 1) := by decide +kernel
theorem dX4_readOr_25 : decode cX4_readOr 25 = .ok (.getfield 41, 3) := by decide +kernel
theorem dX4_readOr_28 : decode cX4_readOr 28 = .ok (.iconst 1, 1) := by decide +kernel
theorem dX4_readOr_29 : decode cX4_readOr 29 = .ok (.iadd, 1) := by decide +kernel
theorem dX4_readOr_30 : decode cX4_readOr 30 = .ok (.putfield 41, 3) := by decide +kernel
theorem dX4_readOr_33 : decode cX4_readOr 33 = .ok (.aload_n 0, 1) := by decide +kernel
theorem dX4_readOr_34 : decode cX4_readOr 34 = .ok (.iload_n 1, 1) := by decide +kernel
theorem dX4_readOr_35 : decode cX4_readOr 35 = .ok (.invokevirtual 129, 3) := by decide +kernel
theorem dX4_readOr_38 : decode cX4_readOr 38 = .ok (.aload_n 0, 1) := by decide +kernel
theorem dX4_readOr_39 : decode cX4_readOr 39 = .ok (.bipush (-6), 2) := by decide +kernel
theorem dX4_readOr_41 : decode cX4_readOr 41 = .ok (.invokevirtual 59, 3) := by decide +kernel
theorem dX4_readOr_44 : decode cX4_readOr 44 = .ok (.iinc 2 1, 3) := by decide +kernel
theorem dX4_readOr_47 : decode cX4_readOr 47 = .ok (.goto (-40), 3) := by decide +kernel
theorem dX4_readOr_50 : decode cX4_readOr 50 = .ok (.return_, 1) := by decide +kernel
set_option maxRecDepth 20000 in
theorem ggX4_readAnd_X4_readNot : GoodIn wsX4_readAnd wsX4_readNot := goodIn_r _ [23, 1, 6, 7, 8, 5, 9, 10, 11, 12, 13, 14, 24, 25, 26, 27, 28, 2, 3, 4, 15, 16, 17, 18, 19, 20, 21, 22, 29, 30, 31, 0, 32, 33, 34, 35, 36, 37, 38, 39, 40, 41, 42, 43, 44, 45, 46, 47, 48, 49, 50, 51, 52, 53, 54, 55, 56, 57, 58, 59, 60, 61, 62, 63] rfl (by decide +kernel)
set_option maxRecDepth 20000 in
theorem gX4_readAnd_X4_readNot : GoodIn wsX4_readAnd (wsV RX4 132 RX4 yX4_readNot wsX4_readNot) := goodIn_app (goodIn_of _ (by decide +kernel)) ggX4_readAnd_X4_readNot
set_option maxRecDepth 20000 in
theorem ggX4_readAnd_X4_token : GoodIn wsX4_readAnd wsX4_token := goodIn_r _ [9, 10, 11, 1, 12, 13, 14, 53, 54, 55, 56, 57, 58, 59, 60, 61, 62, 63] rfl (by decide +kernel)
set_option maxRecDepth 20000 in
theorem gX4_readAnd_X4_token : GoodIn wsX4_readAnd (wsV RX4 123 RX4 yX4_token wsX4_token) := goodIn_app (goodIn_of _ (by decide +kernel)) ggX4_readAnd_X4_token
set_option maxRecDepth 20000 in
theorem ggX4_readAnd_X4_emit : GoodIn wsX4_readAnd wsX4_emit := goodIn_r _ [18, 19, 20, 21, 13, 22, 53, 54, 55, 56, 57, 58, 59, 60, 61, 62, 63] rfl (by decide +kernel)
set_option maxRecDepth 20000 in
theorem gX4_readAnd_X4_emit : GoodIn wsX4_readAnd (wsV RX4 59 RX4 yX4_emit wsX4_emit) := goodIn_app (goodIn_of _ (by decide +kernel)) ggX4_readAnd_X4_emit
theorem dX4_readAnd_0 : decode cX4_readAnd 0 = .ok (.aload_n 0, 1) := by decide +kernel
theorem dX4_readAnd_1 : decode cX4_readAnd 1 = .ok (.iload_n 1, 1) := by decide +kernel
theorem dX4_readAnd_2 : decode cX4_readAnd 2 = .ok (.invokevirtual 132, 3) := by decide +kernel
theorem dX4_readAnd_5 : decode cX4_readAnd 5 = .ok (.iconst 0, 1) := by decide +kernel
theorem dX4_readAnd_6 : decode cX4_readAnd 6 = .ok (.istore_n 2, 1) := by decide +kernel
theorem dX4_readAnd_7 : decode cX4_readAnd 7 = .ok (.iload_n 2, 1) := by decide +kernel
theorem dX4_readAnd_8 : decode cX4_readAnd 8 = .ok (.sipush 160, 3) := by decide +kernel
theorem dX4_readAnd_11 : decode cX4_readAnd 11 = .ok (.if_icmp .ge 39, 3) := by decide +kernel
theorem dX4_readAnd_14 : decode cX4_readAnd 14 = .ok (.aload_n 0, 1) := by decide +kernel
theorem dX4_readAnd_15 : decode cX4_readAnd 15 = .ok (.invokevirtual 123, 3) := by decide +kernel
theorem dX4_readAnd_18 : decode cX4_readAnd 18 = .ok (.bipush 7, 2) := by decide +kernel
theorem dX4_readAnd_20 : decode cX4_readAnd 20 = .ok (.if_icmp .ne 30, 3) := by decide +kernel
theorem dX4_readAnd_23 : decode cX4_readAnd 23 = .ok (.aload_n 0, 1) := by decide +kernel
theorem dX4_readAnd_24 : decode cX4_readAnd 24 = .ok (.dup, 1) := by decide +kernel
theorem dX4_readAnd_25 : decode cX4_readAnd 25 = .ok (.getfield 41, 3) := by decide +kernel
theorem dX4_readAnd_28 : decode cX4_readAnd 28 = .ok (.iconst 1, 1) := by decide +kernel
theorem dX4_readAnd_29 : decode cX4_readAnd 29 = .ok (.iadd, 1) := by decide +kernel
theorem dX4_readAnd_30 : decode cX4_readAnd 30 = .ok (.putfield 41, 3) := by decide +kernel
theorem dX4_readAnd_33 : decode cX4_readAnd 33 = .ok (.aload_n 0, 1) := by decide +kernel
theorem dX4_readAnd_34 : decode cX4_readAnd 34 = .ok (.iload_n 1, 1) := by decide +kernel
theorem dX4_readAnd_35 : decode cX4_readAnd 35 = .ok (.invokevirtual 132, 3) := by decide +kernel
theorem dX4_readAnd_38 : decode cX4_readAnd 38 = .ok (.aload_n 0, 1) := by decide +kernel
theorem dX4_readAnd_39 : decode cX4_readAnd 39 = .ok (.bipush (-7), 2) := by decide +kernel
theorem dX4_readAnd_41 : decode cX4_readAnd 41 = .ok (.invokevirtual 59, 3) := by decide +kernel
theorem dX4_readAnd_44 : decode cX4_readAnd 44 = .ok (.iinc 2 1, 3) := by decide +kernel
theorem dX4_readAnd_47 : decode cX4_readAnd 47 = .ok (.goto (-40), 3) := by decide +kernel
theorem dX4_readAnd_50 : decode cX4_readAnd 50 = .ok (.return_, 1) := by decide +kernel
set_option maxRecDepth 20000 in
theorem ggX4_readNot_X4_token : GoodIn wsX4_readNot wsX4_token := goodIn_r _ [6, 7, 8, 1, 9, 10, 11, 53, 54, 55, 56, 57, 58, 59, 60, 61, 62, 63] rfl (by decide +kernel)
set_option maxRecDepth 20000 in
theorem gX4_readNot_X4_token : GoodIn wsX4_readNot (wsV RX4 123 RX4 yX4_token wsX4_token) := goodIn_app (goodIn_of _ (by decide +kernel)) ggX4_readNot_X4_token
set_option maxRecDepth 20000 in
theorem ggX4_readNot_X4_fail : GoodIn wsX4_readNot wsX4_fail := goodIn_r _ [15, 7, 16, 1, 9, 10, 11, 53, 54, 55, 56, 57, 58, 59, 60, 61, 62, 63] rfl (by decide +kernel)
set_option maxRecDepth 20000 in
theorem gX4_readNot_X4_fail : GoodIn wsX4_readNot (wsV RX4 126 RX4 yX4_fail wsX4_fail) := goodIn_app (goodIn_of _ (by decide +kernel)) ggX4_readNot_X4_fail
set_option maxRecDepth 20000 in
theorem ggX4_readNot_X4_readNot : GoodIn wsX4_readNot wsX4_readNot := goodIn_r _ [0, 1, 2, 3, 4, 5, 6, 7, 8, 9, 10, 11, 12, 13, 14, 15, 16, 17, 18, 19, 20, 21, 22, 23, 24, 25, 26, 27, 28, 29, 30, 31, 32, 33, 34, 35, 36, 37, 38, 39, 40, 41, 42, 43, 44, 45, 46, 47, 48, 49, 50, 51, 52, 53, 54, 55, 56, 57, 58, 59, 60, 61, 62, 63] rfl (by decide +kernel)
set_option maxRecDepth 20000 in
theorem gX4_readNot_X4_readNot : GoodIn wsX4_readNot (wsV RX4 132 RX4 yX4_readNot wsX4_readNot) := goodIn_app (goodIn_of _ (by decide +kernel)) ggX4_readNot_X4_readNot
set_option maxRecDepth 20000 in
theorem ggX4_readNot_X4_emit : GoodIn wsX4_readNot wsX4_emit := goodIn_r _ [23, 24, 25, 26, 10, 27, 53, 54, 55, 56, 57, 58, 59, 60, 61, 62, 63] rfl (by decide +kernel)
set_option maxRecDepth 20000 in
theorem gX4_readNot_X4_emit : GoodIn wsX4_readNot (wsV RX4 59 RX4 yX4_emit wsX4_emit) := goodIn_app (goodIn_of _ (by decide +kernel)) ggX4_readNot_X4_emit
set_option maxRecDepth 20000 in
theorem ggX4_readNot_X4_readSum : GoodIn wsX4_readNot wsX4_readSum := goodIn_r _ [48, 1, 49, 50, 51, 5, 2, 3, 4, 6, 7, 8, 9, 10, 11, 20, 21, 22, 23, 24, 25, 26, 27, 31, 17, 18, 19, 0, 12, 13, 14, 15, 16, 28, 29, 30, 32, 33, 34, 35, 36, 37, 38, 39, 40, 41, 42, 43, 44, 45, 46, 47, 52, 53, 54, 55, 56, 57, 58, 59, 60, 61, 62, 63] rfl (by decide +kernel)
set_option maxRecDepth 20000 in
theorem gX4_readNot_X4_readSum : GoodIn wsX4_readNot (wsV RX4 135 RX4 yX4_readSum wsX4_readSum) := goodIn_app (goodIn_of _ (by decide +kernel)) ggX4_readNot_X4_readSum
theorem dX4_readNot_0 : decode cX4_readNot 0 = .ok (.aload_n 0, 1) := by decide +kernel
theorem dX4_readNot_1 : decode cX4_readNot 1 = .ok (.invokevirtual 123, 3) := by decide +kernel
theorem dX4_readNot_4 : decode cX4_readNot 4 = .ok (.bipush 8, 2) := by decide +kernel
theorem dX4_readNot_6 : decode cX4_readNot 6 = .ok (.if_icmp .ne 37, 3) := by decide +kernel
theorem dX4_readNot_9 : decode cX4_readNot 9 = .ok (.iload_n 1, 1) := by decide +kernel
theorem dX4_readNot_10 : decode cX4_readNot 10 = .ok (.iconst 5, 1) := by decide +kernel
theorem dX4_readNot_11 : decode cX4_readNot 11 = .ok (.if_icmp .lt 8, 3) := by decide +kernel
theorem dX4_readNot_14 : decode cX4_readNot 14 = .ok (.aload_n 0, 1) := by decide +kernel
theorem dX4_readNot_15 : decode cX4_readNot 15 = .ok (.invokevirtual 126, 3) := by decide +kernel
theorem dX4_readNot_18 : decode cX4_readNot 18 = .ok (.return_, 1) := by decide +kernel
theorem dX4_readNot_19 : decode cX4_readNot 19 = .ok (.aload_n 0, 1) := by decide +kernel
theorem dX4_readNot_20 : decode cX4_readNot 20 = .ok (.dup, 1) := by decide +kernel
theorem dX4_readNot_21 : decode cX4_readNot 21 = .ok (.getfield 41, 3) := by decide +kernel
theorem dX4_readNot_24 : decode cX4_readNot 24 = .ok (.iconst 1, 1) := by decide +kernel
theorem dX4_readNot_25 : decode cX4_readNot 25 = .ok (.iadd, 1) := by decide +kernel
theorem dX4_readNot_26 : decode cX4_readNot 26 = .ok (.putfield 41, 3) := by decide +kernel
theorem dX4_readNot_29 : decode cX4_readNot 29 = .ok (.aload_n 0, 1) := by decide +kernel
theorem dX4_readNot_30 : decode cX4_readNot 30 = .ok (.iload_n 1, 1) := by decide +kernel
theorem dX4_readNot_31 : decode cX4_readNot 31 = .ok (.iconst 1, 1) := by decide +kernel
theorem dX4_readNot_32 : decode cX4_readNot 32 = .ok (.iadd, 1) := by decide +kernel
theorem dX4_readNot_33 : decode cX4_readNot 33 = .ok (.invokevirtual 132, 3) := by decide +kernel
theorem dX4_readNot_36 : decode cX4_readNot 36 = .ok (.aload_n 0, 1) := by decide +kernel
theorem dX4_readNot_37 : decode cX4_readNot 37 = .ok (.bipush (-8), 2) := by decide +kernel
