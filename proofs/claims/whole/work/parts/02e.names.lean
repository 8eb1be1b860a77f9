theorem dX4_readNot_39 : decode cX4_readNot 39 = .ok (.invokevirtual 59, 3) := by decide +kernel
theorem dX4_readNot_42 : decode cX4_readNot 42 = .ok (.return_, 1) := by decide +kernel
theorem dX4_readNot_43 : decode cX4_readNot 43 = .ok (.aload_n 0, 1) := by decide +kernel
theorem dX4_readNot_44 : decode cX4_readNot 44 = .ok (.iload_n 1, 1) := by decide +kernel
theorem dX4_readNot_45 : decode cX4_readNot 45 = .ok (.invokevirtual 135, 3) := by decide +kernel
theorem dX4_readNot_48 : decode cX4_readNot 48 = .ok (.aload_n 0, 1) := by decide +kernel
theorem dX4_readNot_49 : decode cX4_readNot 49 = .ok (.invokevirtual 123, 3) := by decide +kernel
theorem dX4_readNot_52 : decode cX4_readNot 52 = .ok (.istore_n 2, 1) := by decide +kernel
theorem dX4_readNot_53 : decode cX4_readNot 53 = .ok (.iload_n 2, 1) := by decide +kernel
theorem dX4_readNot_54 : decode cX4_readNot 54 = .ok (.bipush 60, 2) := by decide +kernel
theorem dX4_readNot_56 : decode cX4_readNot 56 = .ok (.if_icmp .eq 9, 3) := by decide +kernel
theorem dX4_readNot_59 : decode cX4_readNot 59 = .ok (.iload_n 2, 1) := by decide +kernel
theorem dX4_readNot_60 : decode cX4_readNot 60 = .ok (.bipush 61, 2) := by decide +kernel
theorem dX4_readNot_62 : decode cX4_readNot 62 = .ok (.if_icmp .ne 24, 3) := by decide +kernel
theorem dX4_readNot_65 : decode cX4_readNot 65 = .ok (.aload_n 0, 1) := by decide +kernel
theorem dX4_readNot_66 : decode cX4_readNot 66 = .ok (.dup, 1) := by decide +kernel
theorem dX4_readNot_67 : decode cX4_readNot 67 = .ok (.getfield 41, 3) := by decide +kernel
theorem dX4_readNot_70 : decode cX4_readNot 70 = .ok (.iconst 1, 1) := by decide +kernel
theorem dX4_readNot_71 : decode cX4_readNot 71 = .ok (.iadd, 1) := by decide +kernel
theorem dX4_readNot_72 : decode cX4_readNot 72 = .ok (.putfield 41, 3) := by decide +kernel
theorem dX4_readNot_75 : decode cX4_readNot 75 = .ok (.aload_n 0, 1) := by decide +kernel
theorem dX4_readNot_76 : decode cX4_readNot 76 = .ok (.iload_n 1, 1) := by decide +kernel
theorem dX4_readNot_77 : decode cX4_readNot 77 = .ok (.invokevirtual 135, 3) := by decide +kernel
theorem dX4_readNot_80 : decode cX4_readNot 80 = .ok (.aload_n 0, 1) := by decide +kernel
theorem dX4_readNot_81 : decode cX4_readNot 81 = .ok (.iload_n 2, 1) := by decide +kernel
theorem dX4_readNot_82 : decode cX4_readNot 82 = .ok (.ineg, 1) := by decide +kernel
theorem dX4_readNot_83 : decode cX4_readNot 83 = .ok (.invokevirtual 59, 3) := by decide +kernel
theorem dX4_readNot_86 : decode cX4_readNot 86 = .ok (.return_, 1) := by decide +kernel
set_option maxRecDepth 20000 in
theorem ggX4_readSum_X4_readTerm : GoodIn wsX4_readSum wsX4_readTerm := goodIn_r _ [52, 1, 38, 39, 40, 5, 6, 7, 8, 9, 10, 11, 12, 13, 14, 15, 16, 17, 18, 19, 20, 21, 22, 23, 24, 25, 26, 27, 28, 29, 30, 31, 32, 33, 34, 35, 36, 37, 41, 42, 43, 44, 45, 46, 47, 48, 49, 50, 51, 0, 2, 3, 4, 53, 54, 55, 56, 57, 58, 59, 60, 61, 62, 63] rfl (by decide +kernel)
set_option maxRecDepth 20000 in
theorem gX4_readSum_X4_readTerm : GoodIn wsX4_readSum (wsV RX4 138 RX4 yX4_readTerm wsX4_readTerm) := goodIn_app (goodIn_of _ (by decide +kernel)) ggX4_readSum_X4_readTerm
set_option maxRecDepth 20000 in
theorem ggX4_readSum_X4_token : GoodIn wsX4_readSum wsX4_token := goodIn_r _ [9, 10, 11, 1, 12, 13, 14, 53, 54, 55, 56, 57, 58, 59, 60, 61, 62, 63] rfl (by decide +kernel)
set_option maxRecDepth 20000 in
theorem gX4_readSum_X4_token : GoodIn wsX4_readSum (wsV RX4 123 RX4 yX4_token wsX4_token) := goodIn_app (goodIn_of _ (by decide +kernel)) ggX4_readSum_X4_token
set_option maxRecDepth 20000 in
theorem ggX4_readSum_X4_emit : GoodIn wsX4_readSum wsX4_emit := goodIn_r _ [18, 19, 20, 21, 13, 22, 53, 54, 55, 56, 57, 58, 59, 60, 61, 62, 63] rfl (by decide +kernel)
set_option maxRecDepth 20000 in
theorem gX4_readSum_X4_emit : GoodIn wsX4_readSum (wsV RX4 59 RX4 yX4_emit wsX4_emit) := goodIn_app (goodIn_of _ (by decide +kernel)) ggX4_readSum_X4_emit
theorem dX4_readSum_0 : decode cX4_readSum 0 = .ok (.aload_n 0, 1) := by decide +kernel
theorem dX4_readSum_1 : decode cX4_readSum 1 = .ok (.iload_n 1, 1) := by decide +kernel
theorem dX4_readSum_2 : decode cX4_readSum 2 = .ok (.invokevirtual 138, 3) := by decide +kernel
theorem dX4_readSum_5 : decode cX4_readSum 5 = .ok (.aload_n 0, 1) := by decide +kernel
theorem dX4_readSum_6 : decode cX4_readSum 6 = .ok (.invokevirtual 123, 3) := by decide +kernel
theorem dX4_readSum_9 : decode cX4_readSum 9 = .ok (.istore_n 2, 1) := by decide +kernel
theorem dX4_readSum_10 : decode cX4_readSum 10 = .ok (.iconst 0, 1) := by decide +kernel
theorem dX4_readSum_11 : decode cX4_readSum 11 = .ok (.istore_n 3, 1) := by decide +kernel
theorem dX4_readSum_12 : decode cX4_readSum 12 = .ok (.iload_n 3, 1) := by decide +kernel
theorem dX4_readSum_13 : decode cX4_readSum 13 = .ok (.sipush 160, 3) := by decide +kernel
theorem dX4_readSum_16 : decode cX4_readSum 16 = .ok (.if_icmp .ge 47, 3) := by decide +kernel
theorem dX4_readSum_19 : decode cX4_readSum 19 = .ok (.iload_n 2, 1) := by decide +kernel
theorem dX4_readSum_20 : decode cX4_readSum 20 = .ok (.bipush 43, 2) := by decide +kernel
theorem dX4_readSum_22 : decode cX4_readSum 22 = .ok (.if_icmp .eq 9, 3) := by decide +kernel
theorem dX4_readSum_25 : decode cX4_readSum 25 = .ok (.iload_n 2, 1) := by decide +kernel
theorem dX4_readSum_26 : decode cX4_readSum 26 = .ok (.bipush 45, 2) := by decide +kernel
theorem dX4_readSum_28 : decode cX4_readSum 28 = .ok (.if_icmp .ne 35, 3) := by decide +kernel
theorem dX4_readSum_31 : decode cX4_readSum 31 = .ok (.aload_n 0, 1) := by decide +kernel
theorem dX4_readSum_32 : decode cX4_readSum 32 = .ok (.dup, 1) := by decide +kernel
theorem dX4_readSum_33 : decode cX4_readSum 33 = .ok (.getfield 41, 3) := by decide +kernel
theorem dX4_readSum_36 : decode cX4_readSum 36 = .ok (.iconst 1, 1) := by decide +kernel
theorem dX4_readSum_37 : decode cX4_readSum 37 = .ok (.iadd, 1) := by decide +kernel
theorem dX4_readSum_38 : decode cX4_readSum 38 = .ok (.putfield 41, 3) := by decide +kernel
theorem dX4_readSum_41 : decode cX4_readSum 41 = .ok (.aload_n 0, 1) := by decide +kernel
theorem dX4_readSum_42 : decode cX4_readSum 42 = .ok (.iload_n 1, 1) := by decide +kernel
theorem dX4_readSum_43 : decode cX4_readSum 43 = .ok (.invokevirtual 138, 3) := by decide +kernel
theorem dX4_readSum_46 : decode cX4_readSum 46 = .ok (.aload_n 0, 1) := by decide +kernel
theorem dX4_readSum_47 : decode cX4_readSum 47 = .ok (.iload_n 2, 1) := by decide +kernel
theorem dX4_readSum_48 : decode cX4_readSum 48 = .ok (.ineg, 1) := by decide +kernel
theorem dX4_readSum_49 : decode cX4_readSum 49 = .ok (.invokevirtual 59, 3) := by decide +kernel
theorem dX4_readSum_52 : decode cX4_readSum 52 = .ok (.aload_n 0, 1) := by decide +kernel
theorem dX4_readSum_53 : decode cX4_readSum 53 = .ok (.invokevirtual 123, 3) := by decide +kernel
theorem dX4_readSum_56 : decode cX4_readSum 56 = .ok (.istore_n 2, 1) := by decide +kernel
theorem dX4_readSum_57 : decode cX4_readSum 57 = .ok (.iinc 3 1, 3) := by decide +kernel
theorem dX4_readSum_60 : decode cX4_readSum 60 = .ok (.goto (-48), 3) := by decide +kernel
theorem dX4_readSum_63 : decode cX4_readSum 63 = .ok (.return_, 1) := by decide +kernel
set_option maxRecDepth 20000 in
theorem ggX4_readTerm_X4_readOne : GoodIn wsX4_readTerm wsX4_readOne := goodIn_r _ [36, 37, 1, 6, 7, 8, 5, 9, 10, 11, 12, 13, 14, 15, 16, 17, 18, 19, 20, 21, 22, 2, 3, 4, 38, 39, 40, 41, 42, 43, 44, 28, 29, 30, 31, 32, 23, 24, 25, 26, 27, 33, 34, 35, 45, 46, 47, 48, 49, 50, 51, 52, 0, 53, 54, 55, 56, 57, 58, 59, 60, 61, 62, 63] rfl (by decide +kernel)
set_option maxRecDepth 20000 in
theorem gX4_readTerm_X4_readOne : GoodIn wsX4_readTerm (wsV RX4 141 RX4 yX4_readOne wsX4_readOne) := goodIn_app (goodIn_of _ (by decide +kernel)) ggX4_readTerm_X4_readOne
set_option maxRecDepth 20000 in
theorem ggX4_readTerm_X4_token : GoodIn wsX4_readTerm wsX4_token := goodIn_r _ [9, 10, 11, 1, 12, 13, 14, 53, 54, 55, 56, 57, 58, 59, 60, 61, 62, 63] rfl (by decide +kernel)
set_option maxRecDepth 20000 in
theorem gX4_readTerm_X4_token : GoodIn wsX4_readTerm (wsV RX4 123 RX4 yX4_token wsX4_token) := goodIn_app (goodIn_of _ (by decide +kernel)) ggX4_readTerm_X4_token
set_option maxRecDepth 20000 in
theorem ggX4_readTerm_X4_emit : GoodIn wsX4_readTerm wsX4_emit := goodIn_r _ [18, 19, 20, 21, 13, 22, 53, 54, 55, 56, 57, 58, 59, 60, 61, 62, 63] rfl (by decide +kernel)
set_option maxRecDepth 20000 in
theorem gX4_readTerm_X4_emit : GoodIn wsX4_readTerm (wsV RX4 59 RX4 yX4_emit wsX4_emit) := goodIn_app (goodIn_of _ (by decide +kernel)) ggX4_readTerm_X4_emit
theorem dX4_readTerm_0 : decode cX4_readTerm 0 = .ok (.aload_n 0, 1) := by decide +kernel
theorem dX4_readTerm_1 : decode cX4_readTerm 1 = .ok (.iload_n 1, 1) := by decide +kernel
theorem dX4_readTerm_2 : decode cX4_readTerm 2 = .ok (.invokevirtual 141, 3) := by decide +kernel
theorem dX4_readTerm_5 : decode cX4_readTerm 5 = .ok (.iconst 0, 1) := by decide +kernel
theorem dX4_readTerm_6 : decode cX4_readTerm 6 = .ok (.istore_n 2, 1) := by decide +kernel
theorem dX4_readTerm_7 : decode cX4_readTerm 7 = .ok (.iload_n 2, 1) := by decide +kernel
theorem dX4_readTerm_8 : decode cX4_readTerm 8 = .ok (.sipush 160, 3) := by decide +kernel
theorem dX4_readTerm_11 : decode cX4_readTerm 11 = .ok (.if_icmp .ge 39, 3) := by decide +kernel
theorem dX4_readTerm_14 : decode cX4_readTerm 14 = .ok (.aload_n 0, 1) := by decide +kernel
theorem dX4_readTerm_15 : decode cX4_readTerm 15 = .ok (.invokevirtual 123, 3) := by decide +kernel
theorem dX4_readTerm_18 : decode cX4_readTerm 18 = .ok (.bipush 42, 2) := by decide +kernel
theorem dX4_readTerm_20 : decode cX4_readTerm 20 = .ok (.if_icmp .ne 30, 3) := by decide +kernel
theorem dX4_readTerm_23 : decode cX4_readTerm 23 = .ok (.aload_n 0, 1) := by decide +kernel
theorem dX4_readTerm_24 : decode cX4_readTerm 24 = .ok (.dup, 1) := by decide +kernel
theorem dX4_readTerm_25 : decode cX4_readTerm 25 = .ok (.getfield 41, 3) := by decide +kernel
theorem dX4_readTerm_28 : decode cX4_readTerm 28 = .ok (.iconst 1, 1) := by decide +kernel
theorem dX4_readTerm_29 : decode cX4_readTerm 29 = .ok (.iadd, 1) := by decide +kernel
theorem dX4_readTerm_30 : decode cX4_readTerm 30 = .ok (.putfield 41, 3) := by decide +kernel
theorem dX4_readTerm_33 : decode cX4_readTerm 33 = .ok (.aload_n 0, 1) := by decide +kernel
theorem dX4_readTerm_34 : decode cX4_readTerm 34 = .ok (.iload_n 1, 1) := by decide +kernel
theorem dX4_readTerm_35 : decode cX4_readTerm 35 = .ok (.invokevirtual 141, 3) := by decide +kernel
theorem dX4_readTerm_38 : decode cX4_readTerm 38 = .ok (.aload_n 0, 1) := by decide +kernel
theorem dX4_readTerm_39 : decode cX4_readTerm 39 = .ok (.bipush (-42), 2) := by decide +kernel
theorem dX4_readTerm_41 : decode cX4_readTerm 41 = .ok (.invokevirtual 59, 3) := by decide +kernel
theorem dX4_readTerm_44 : decode cX4_readTerm 44 = .ok (.iinc 2 1, 3) := by decide +kernel
theorem dX4_readTerm_47 : decode cX4_readTerm 47 = .ok (.goto (-40), 3) := by decide +kernel
theorem dX4_readTerm_50 : decode cX4_readTerm 50 = .ok (.return_, 1) := by decide +kernel
set_option maxRecDepth 20000 in
theorem ggX4_readOne_X4_token : GoodIn wsX4_readOne wsX4_token := goodIn_r _ [7, 8, 9, 2, 10, 11, 12, 53, 54, 55, 56, 57, 58, 59, 60, 61, 62, 63] rfl (by decide +kernel)
set_option maxRecDepth 20000 in
theorem gX4_readOne_X4_token : GoodIn wsX4_readOne (wsV RX4 123 RX4 yX4_token wsX4_token) := goodIn_app (goodIn_of _ (by decide +kernel)) ggX4_readOne_X4_token
set_option maxRecDepth 20000 in
theorem ggX4_readOne_X7_at : GoodIn wsX4_readOne wsX7_at := goodIn_r _ [12] rfl (by decide +kernel)
set_option maxRecDepth 20000 in
theorem gX4_readOne_X7_at_n119 : GoodIn wsX4_readOne (wsX7_at) := ggX4_readOne_X7_at
set_option maxRecDepth 20000 in
theorem ggX4_readOne_X4_emit : GoodIn wsX4_readOne wsX4_emit := goodIn_r _ [16, 17, 18, 19, 11, 20, 53, 54, 55, 56, 57, 58, 59, 60, 61, 62, 63] rfl (by decide +kernel)
set_option maxRecDepth 20000 in
theorem gX4_readOne_X4_emit : GoodIn wsX4_readOne (wsV RX4 59 RX4 yX4_emit wsX4_emit) := goodIn_app (goodIn_of _ (by decide +kernel)) ggX4_readOne_X4_emit
set_option maxRecDepth 20000 in
theorem ggX4_readOne_X4_readOne : GoodIn wsX4_readOne wsX4_readOne := goodIn_r _ [0, 1, 2, 3, 4, 5, 6, 7, 8, 9, 10, 11, 12, 13, 14, 15, 16, 17, 18, 19, 20, 21, 22, 23, 24, 25, 26, 27, 28, 29, 30, 31, 32, 33, 34, 35, 36, 37, 38, 39, 40, 41, 42, 43, 44, 45, 46, 47, 48, 49, 50, 51, 52, 53, 54, 55, 56, 57, 58, 59, 60, 61, 62, 63] rfl (by decide +kernel)
set_option maxRecDepth 20000 in
theorem gX4_readOne_X4_readOne : GoodIn wsX4_readOne (wsV RX4 141 RX4 yX4_readOne wsX4_readOne) := goodIn_app (goodIn_of _ (by decide +kernel)) ggX4_readOne_X4_readOne
set_option maxRecDepth 20000 in
theorem ggX4_readOne_X4_readOr : GoodIn wsX4_readOne wsX4_readOr := goodIn_r _ [44, 2, 45, 46, 47, 6, 3, 4, 5, 7, 8, 9, 10, 11, 12, 13, 14, 15, 16, 17, 18, 19, 20, 36, 37, 38, 39, 40, 31, 32, 33, 34, 35, 41, 42, 43, 0, 1, 21, 22, 23, 24, 25, 26, 27, 28, 29, 30, 48, 49, 50, 51, 52, 53, 54, 55, 56, 57, 58, 59, 60, 61, 62, 63] rfl (by decide +kernel)
set_option maxRecDepth 20000 in
theorem gX4_readOne_X4_readOr : GoodIn wsX4_readOne (wsV RX4 54 RX4 yX4_readOr wsX4_readOr) := goodIn_app (goodIn_of _ (by decide +kernel)) ggX4_readOne_X4_readOr
set_option maxRecDepth 20000 in
theorem ggX4_readOne_X4_expect : GoodIn wsX4_readOne wsX4_expect := goodIn_r _ [30, 2, 3, 4, 5, 6, 7, 8, 9, 10, 11, 12, 31, 32, 33, 34, 35, 53, 54, 55, 56, 57, 58, 59, 60, 61, 62, 63] rfl (by decide +kernel)
set_option maxRecDepth 20000 in
theorem gX4_readOne_X4_expect : GoodIn wsX4_readOne (wsV RX4 50 RX4 yX4_expect wsX4_expect) := goodIn_app (goodIn_of _ (by decide +kernel)) ggX4_readOne_X4_expect
set_option maxRecDepth 20000 in
theorem ggX4_readOne_X4_fail : GoodIn wsX4_readOne wsX4_fail := goodIn_r _ [34, 8, 35, 2, 10, 11, 12, 53, 54, 55, 56, 57, 58, 59, 60, 61, 62, 63] rfl (by decide +kernel)
set_option maxRecDepth 20000 in
theorem gX4_readOne_X4_fail : GoodIn wsX4_readOne (wsV RX4 126 RX4 yX4_fail wsX4_fail) := goodIn_app (goodIn_of _ (by decide +kernel)) ggX4_readOne_X4_fail
theorem dX4_readOne_0 : decode cX4_readOne 0 = .ok (.aload_n 0, 1) := by decide +kernel
theorem dX4_readOne_1 : decode cX4_readOne 1 = .ok (.invokevirtual 123, 3) := by decide +kernel
theorem dX4_readOne_4 : decode cX4_readOne 4 = .ok (.istore_n 2, 1) := by decide +kernel
theorem dX4_readOne_5 : decode cX4_readOne 5 = .ok (.iload_n 2, 1) := by decide +kernel
theorem dX4_readOne_6 : decode cX4_readOne 6 = .ok (.iconst 1, 1) := by decide +kernel
theorem dX4_readOne_7 : decode cX4_readOne 7 = .ok (.if_icmp .eq 8, 3) := by decide +kernel
theorem dX4_readOne_10 : decode cX4_readOne 10 = .ok (.iload_n 2, 1) := by decide +kernel
theorem dX4_readOne_11 : decode cX4_readOne 11 = .ok (.iconst 2, 1) := by decide +kernel
theorem dX4_readOne_12 : decode cX4_readOne 12 = .ok (.if_icmp .ne 31, 3) := by decide +kernel
theorem dX4_readOne_15 : decode cX4_readOne 15 = .ok (.aload_n 0, 1) := by decide +kernel
theorem dX4_readOne_16 : decode cX4_readOne 16 = .ok (.aload_n 0, 1) := by decide +kernel
theorem dX4_readOne_17 : decode cX4_readOne 17 = .ok (.getfield 21, 3) := by decide +kernel
theorem dX4_readOne_20 : decode cX4_readOne 20 = .ok (.aload_n 0, 1) := by decide +kernel
theorem dX4_readOne_21 : decode cX4_readOne 21 = .ok (.getfield 41, 3) := by decide +kernel
theorem dX4_readOne_24 : decode cX4_readOne 24 = .ok (.invokestatic 119, 3) := by decide +kernel
theorem dX4_readOne_27 : decode cX4_readOne 27 = .ok (.invokevirtual 59, 3) := by decide +kernel
theorem dX4_readOne_30 : decode cX4_readOne 30 = .ok (.aload_n 0, 1) := by decide +kernel
theorem dX4_readOne_31 : decode cX4_readOne 31 = .ok (.dup, 1) := by decide +kernel
theorem dX4_readOne_32 : decode cX4_readOne 32 = .ok (.getfield 41, 3) := by decide +kernel
theorem dX4_readOne_35 : decode cX4_readOne 35 = .ok (.iconst 1, 1) := by decide +kernel
theorem dX4_readOne_36 : decode cX4_readOne 36 = .ok (.iadd, 1) := by decide +kernel
theorem dX4_readOne_37 : decode cX4_readOne 37 = .ok (.putfield 41, 3) := by decide +kernel
theorem dX4_readOne_40 : decode cX4_readOne 40 = .ok (.goto 81, 3) := by decide +kernel
theorem dX4_readOne_43 : decode cX4_readOne 43 = .ok (.iload_n 1, 1) := by decide +kernel
theorem dX4_readOne_44 : decode cX4_readOne 44 = .ok (.iconst 5, 1) := by decide +kernel
theorem dX4_readOne_45 : decode cX4_readOne 45 = .ok (.if_icmp .ge 35, 3) := by decide +kernel
theorem dX4_readOne_48 : decode cX4_readOne 48 = .ok (.iload_n 2, 1) := by decide +kernel
theorem dX4_readOne_49 : decode cX4_readOne 49 = .ok (.bipush 45, 2) := by decide +kernel
theorem dX4_readOne_51 : decode cX4_readOne 51 = .ok (.if_icmp .ne 29, 3) := by decide +kernel
theorem dX4_readOne_54 : decode cX4_readOne 54 = .ok (.aload_n 0, 1) := by decide +kernel
theorem dX4_readOne_55 : decode cX4_readOne 55 = .ok (.dup, 1) := by decide +kernel
theorem dX4_readOne_56 : decode cX4_readOne 56 = .ok (.getfield 41, 3) := by decide +kernel
theorem dX4_readOne_59 : decode cX4_readOne 59 = .ok (.iconst 1, 1) := by decide +kernel
theorem dX4_readOne_60 : decode cX4_readOne 60 = .ok (.iadd, 1) := by decide +kernel
theorem dX4_readOne_61 : decode cX4_readOne 61 = .ok (.putfield 41, 3) := by decide +kernel
theorem dX4_readOne_64 : decode cX4_readOne 64 = .ok (.aload_n 0, 1) := by decide +kernel
theorem dX4_readOne_65 : decode cX4_readOne 65 = .ok (.iload_n 1, 1) := by decide +kernel
theorem dX4_readOne_66 : decode cX4_readOne 66 = .ok (.iconst 1, 1) := by decide +kernel
theorem dX4_readOne_67 : decode cX4_readOne 67 = .ok (.iadd, 1) := by decide +kernel
theorem dX4_readOne_68 : decode cX4_readOne 68 = .ok (.invokevirtual 141, 3) := by decide +kernel
theorem dX4_readOne_71 : decode cX4_readOne 71 = .ok (.aload_n 0, 1) := by decide +kernel
theorem dX4_readOne_72 : decode cX4_readOne 72 = .ok (.bipush (-9), 2) := by decide +kernel
theorem dX4_readOne_74 : decode cX4_readOne 74 = .ok (.invokevirtual 59, 3) := by decide +kernel
theorem dX4_readOne_77 : decode cX4_readOne 77 = .ok (.goto 44, 3) := by decide +kernel
theorem dX4_readOne_80 : decode cX4_readOne 80 = .ok (.iload_n 1, 1) := by decide +kernel
theorem dX4_readOne_81 : decode cX4_readOne 81 = .ok (.iconst 5, 1) := by decide +kernel
theorem dX4_readOne_82 : decode cX4_readOne 82 = .ok (.if_icmp .ge 35, 3) := by decide +kernel
theorem dX4_readOne_85 : decode cX4_readOne 85 = .ok (.iload_n 2, 1) := by decide +kernel
theorem dX4_readOne_86 : decode cX4_readOne 86 = .ok (.bipush 40, 2) := by decide +kernel
theorem dX4_readOne_88 : decode cX4_readOne 88 = .ok (.if_icmp .ne 29, 3) := by decide +kernel
theorem dX4_readOne_91 : decode cX4_readOne 91 = .ok (.aload_n 0, 1) := by decide +kernel
theorem dX4_readOne_92 : decode cX4_readOne 92 = .ok (.dup, 1) := by decide +kernel
theorem dX4_readOne_93 : decode cX4_readOne 93 = .ok (.getfield 41, 3) := by decide +kernel
theorem dX4_readOne_96 : decode cX4_readOne 96 = .ok (.iconst 1, 1) := by decide +kernel
theorem dX4_readOne_97 : decode cX4_readOne 97 = .ok (.iadd, 1) := by decide +kernel
theorem dX4_readOne_98 : decode cX4_readOne 98 = .ok (.putfield 41, 3) := by decide +kernel
theorem dX4_readOne_101 : decode cX4_readOne 101 = .ok (.aload_n 0, 1) := by decide +kernel
theorem dX4_readOne_102 : decode cX4_readOne 102 = .ok (.iload_n 1, 1) := by decide +kernel
theorem dX4_readOne_103 : decode cX4_readOne 103 = .ok (.iconst 1, 1) := by decide +kernel
theorem dX4_readOne_104 : decode cX4_readOne 104 = .ok (.iadd, 1) := by decide +kernel
theorem dX4_readOne_105 : decode cX4_readOne 105 = .ok (.invokevirtual 54, 3) := by decide +kernel
theorem dX4_readOne_108 : decode cX4_readOne 108 = .ok (.aload_n 0, 1) := by decide +kernel
theorem dX4_readOne_109 : decode cX4_readOne 109 = .ok (.bipush 41, 2) := by decide +kernel
theorem dX4_readOne_111 : decode cX4_readOne 111 = .ok (.invokevirtual 50, 3) := by decide +kernel
theorem dX4_readOne_114 : decode cX4_readOne 114 = .ok (.goto 7, 3) := by decide +kernel
theorem dX4_readOne_117 : decode cX4_readOne 117 = .ok (.aload_n 0, 1) := by decide +kernel
theorem dX4_readOne_118 : decode cX4_readOne 118 = .ok (.invokevirtual 126, 3) := by decide +kernel
theorem dX4_readOne_121 : decode cX4_readOne 121 = .ok (.return_, 1) := by decide +kernel
theorem dX5_init_0 : decode cX5_init 0 = .ok (.aload_n 0, 1) := by decide +kernel
theorem dX5_init_1 : decode cX5_init 1 = .ok (.invokespecial 3, 3) := by decide +kernel
theorem dX5_init_4 : decode cX5_init 4 = .ok (.aload_n 0, 1) := by decide +kernel
theorem dX5_init_5 : decode cX5_init 5 = .ok (.bipush 40, 2) := by decide +kernel
theorem dX5_init_7 : decode cX5_init 7 = .ok (.newarray .int, 2) := by decide +kernel
theorem dX5_init_9 : decode cX5_init 9 = .ok (.putfield 9, 3) := by decide +kernel
theorem dX5_init_12 : decode cX5_init 12 = .ok (.aload_n 0, 1) := by decide +kernel
theorem dX5_init_13 : decode cX5_init 13 = .ok (.iconst (-1), 1) := by decide +kernel
theorem dX5_init_14 : decode cX5_init 14 = .ok (.putfield 15, 3) := by decide +kernel
theorem dX5_init_17 : decode cX5_init 17 = .ok (.return_, 1) := by decide +kernel
set_option maxRecDepth 20000 in
theorem ggX5_renew_X7_bound : GoodIn wsX5_renew wsX7_bound := goodIn_r _ [6] rfl (by decide +kernel)
set_option maxRecDepth 20000 in
theorem gX5_renew_X7_bound_n19 : GoodIn wsX5_renew (wsX7_bound) := ggX5_renew_X7_bound
set_option maxRecDepth 20000 in
theorem ggX5_renew_J7_fill_53178 : GoodIn wsX5_renew wsJ7_fill_53178 := goodIn_r _ [10] rfl (by decide +kernel)
set_option maxRecDepth 20000 in
theorem gX5_renew_J7_fill_53178 : GoodIn wsX5_renew (va_wsS RX5 26 yJ7_fill_53178 wsJ7_fill_53178) := goodIn_app (goodIn_of _ (by decide +kernel)) ggX5_renew_J7_fill_53178
theorem dX5_renew_0 : decode cX5_renew 0 = .ok (.aload_n 0, 1) := by decide +kernel
theorem dX5_renew_1 : decode cX5_renew 1 = .ok (.iload_n 1, 1) := by decide +kernel
theorem dX5_renew_2 : decode cX5_renew 2 = .ok (.putfield 15, 3) := by decide +kernel
theorem dX5_renew_5 : decode cX5_renew 5 = .ok (.aload_n 0, 1) := by decide +kernel
theorem dX5_renew_6 : decode cX5_renew 6 = .ok (.iload_n 2, 1) := by decide +kernel
theorem dX5_renew_7 : decode cX5_renew 7 = .ok (.iconst 0, 1) := by decide +kernel
theorem dX5_renew_8 : decode cX5_renew 8 = .ok (.aload_n 0, 1) := by decide +kernel
theorem dX5_renew_9 : decode cX5_renew 9 = .ok (.getfield 9, 3) := by decide +kernel
theorem dX5_renew_12 : decode cX5_renew 12 = .ok (.arraylength, 1) := by decide +kernel
theorem dX5_renew_13 : decode cX5_renew 13 = .ok (.invokestatic 19, 3) := by decide +kernel
theorem dX5_renew_16 : decode cX5_renew 16 = .ok (.putfield 23, 3) := by decide +kernel
theorem dX5_renew_19 : decode cX5_renew 19 = .ok (.aload_n 0, 1) := by decide +kernel
theorem dX5_renew_20 : decode cX5_renew 20 = .ok (.getfield 9, 3) := by decide +kernel
theorem dX5_renew_23 : decode cX5_renew 23 = .ok (.iconst 0, 1) := by decide +kernel
theorem dX5_renew_24 : decode cX5_renew 24 = .ok (.invokestatic 26, 3) := by decide +kernel
theorem dX5_renew_27 : decode cX5_renew 27 = .ok (.return_, 1) := by decide +kernel
set_option maxRecDepth 20000 in
theorem ggX5_read_X7_at : GoodIn wsX5_read wsX7_at := goodIn_r _ [4] rfl (by decide +kernel)
set_option maxRecDepth 20000 in
theorem gX5_read_X7_at_n32 : GoodIn wsX5_read (wsX7_at) := ggX5_read_X7_at
theorem dX5_read_0 : decode cX5_read 0 = .ok (.aload_n 0, 1) := by decide +kernel
theorem dX5_read_1 : decode cX5_read 1 = .ok (.getfield 9, 3) := by decide +kernel
theorem dX5_read_4 : decode cX5_read 4 = .ok (.iload_n 1, 1) := by decide +kernel
theorem dX5_read_5 : decode cX5_read 5 = .ok (.invokestatic 32, 3) := by decide +kernel
theorem dX5_read_8 : decode cX5_read 8 = .ok (.ireturn, 1) := by decide +kernel
theorem dX5_write_0 : decode cX5_write 0 = .ok (.iload_n 1, 1) := by decide +kernel
theorem dX5_write_1 : decode cX5_write 1 = .ok (.ifCond .lt 20, 3) := by decide +kernel
theorem dX5_write_4 : decode cX5_write 4 = .ok (.iload_n 1, 1) := by decide +kernel
theorem dX5_write_5 : decode cX5_write 5 = .ok (.aload_n 0, 1) := by decide +kernel
theorem dX5_write_6 : decode cX5_write 6 = .ok (.getfield 23, 3) := by decide +kernel
theorem dX5_write_9 : decode cX5_write 9 = .ok (.if_icmp .ge 12, 3) := by decide +kernel
theorem dX5_write_12 : decode cX5_write 12 = .ok (.iload_n 1, 1) := by decide +kernel
theorem dX5_write_13 : decode cX5_write 13 = .ok (.aload_n 0, 1) := by decide +kernel
theorem dX5_write_14 : decode cX5_write 14 = .ok (.getfield 9, 3) := by decide +kernel
theorem dX5_write_17 : decode cX5_write 17 = .ok (.arraylength, 1) := by decide +kernel
theorem dX5_write_18 : decode cX5_write 18 = .ok (.if_icmp .lt 5, 3) := by decide +kernel
theorem dX5_write_21 : decode cX5_write 21 = .ok (.iconst 0, 1) := by decide +kernel
theorem dX5_write_22 : decode cX5_write 22 = .ok (.ireturn, 1) := by decide +kernel
theorem dX5_write_23 : decode cX5_write 23 = .ok (.aload_n 0, 1) := by decide +kernel
theorem dX5_write_24 : decode cX5_write 24 = .ok (.getfield 9, 3) := by decide +kernel
theorem dX5_write_27 : decode cX5_write 27 = .ok (.iload_n 1, 1) := by decide +kernel
theorem dX5_write_28 : decode cX5_write 28 = .ok (.aload_n 0, 1) := by decide +kernel
theorem dX5_write_29 : decode cX5_write 29 = .ok (.getfield 15, 3) := by decide +kernel
theorem dX5_write_32 : decode cX5_write 32 = .ok (.ifCond .ne 8, 3) := by decide +kernel
theorem dX5_write_35 : decode cX5_write 35 = .ok (.iload_n 2, 1) := by decide +kernel
theorem dX5_write_36 : decode cX5_write 36 = .ok (.i2b, 1) := by decide +kernel
theorem dX5_write_37 : decode cX5_write 37 = .ok (.goto 17, 3) := by decide +kernel
theorem dX5_write_40 : decode cX5_write 40 = .ok (.aload_n 0, 1) := by decide +kernel
theorem dX5_write_41 : decode cX5_write 41 = .ok (.getfield 15, 3) := by decide +kernel
theorem dX5_write_44 : decode cX5_write 44 = .ok (.iconst 1, 1) := by decide +kernel
theorem dX5_write_45 : decode cX5_write 45 = .ok (.if_icmp .ne 8, 3) := by decide +kernel
theorem dX5_write_48 : decode cX5_write 48 = .ok (.iload_n 2, 1) := by decide +kernel
theorem dX5_write_49 : decode cX5_write 49 = .ok (.i2s, 1) := by decide +kernel
theorem dX5_write_50 : decode cX5_write 50 = .ok (.goto 4, 3) := by decide +kernel
theorem dX5_write_53 : decode cX5_write 53 = .ok (.iload_n 2, 1) := by decide +kernel
theorem dX5_write_54 : decode cX5_write 54 = .ok (.iastore, 1) := by decide +kernel
theorem dX5_write_55 : decode cX5_write 55 = .ok (.iconst 1, 1) := by decide +kernel
theorem dX5_write_56 : decode cX5_write 56 = .ok (.ireturn, 1) := by decide +kernel
theorem dX5_spans_0 : decode cX5_spans 0 = .ok (.iload_n 1, 1) := by decide +kernel
theorem dX5_spans_1 : decode cX5_spans 1 = .ok (.ifCond .lt 29, 3) := by decide +kernel
theorem dX5_spans_4 : decode cX5_spans 4 = .ok (.iload_n 2, 1) := by decide +kernel
theorem dX5_spans_5 : decode cX5_spans 5 = .ok (.ifCond .lt 25, 3) := by decide +kernel
theorem dX5_spans_8 : decode cX5_spans 8 = .ok (.iload_n 1, 1) := by decide +kernel
theorem dX5_spans_9 : decode cX5_spans 9 = .ok (.aload_n 0, 1) := by decide +kernel
theorem dX5_spans_10 : decode cX5_spans 10 = .ok (.getfield 23, 3) := by decide +kernel
theorem dX5_spans_13 : decode cX5_spans 13 = .ok (.if_icmp .gt 17, 3) := by decide +kernel
theorem dX5_spans_16 : decode cX5_spans 16 = .ok (.iload_n 2, 1) := by decide +kernel
theorem dX5_spans_17 : decode cX5_spans 17 = .ok (.aload_n 0, 1) := by decide +kernel
theorem dX5_spans_18 : decode cX5_spans 18 = .ok (.getfield 23, 3) := by decide +kernel
theorem dX5_spans_21 : decode cX5_spans 21 = .ok (.iload_n 1, 1) := by decide +kernel
theorem dX5_spans_22 : decode cX5_spans 22 = .ok (.isub, 1) := by decide +kernel
theorem dX5_spans_23 : decode cX5_spans 23 = .ok (.if_icmp .gt 7, 3) := by decide +kernel
theorem dX5_spans_26 : decode cX5_spans 26 = .ok (.iconst 1, 1) := by decide +kernel
theorem dX5_spans_27 : decode cX5_spans 27 = .ok (.goto 4, 3) := by decide +kernel
theorem dX5_spans_30 : decode cX5_spans 30 = .ok (.iconst 0, 1) := by decide +kernel
theorem dX5_spans_31 : decode cX5_spans 31 = .ok (.ireturn, 1) := by decide +kernel
theorem dX6_init_0 : decode cX6_init 0 = .ok (.aload_n 0, 1) := by decide +kernel
theorem dX6_init_1 : decode cX6_init 1 = .ok (.invokespecial 3, 3) := by decide +kernel
theorem dX6_init_4 : decode cX6_init 4 = .ok (.aload_n 0, 1) := by decide +kernel
theorem dX6_init_5 : decode cX6_init 5 = .ok (.sipush 160, 3) := by decide +kernel
theorem dX6_init_8 : decode cX6_init 8 = .ok (.newarray .int, 2) := by decide +kernel
theorem dX6_init_10 : decode cX6_init 10 = .ok (.putfield 9, 3) := by decide +kernel
theorem dX6_init_13 : decode cX6_init 13 = .ok (.aload_n 0, 1) := by decide +kernel
theorem dX6_init_14 : decode cX6_init 14 = .ok (.iload_n 1, 1) := by decide +kernel
theorem dX6_init_15 : decode cX6_init 15 = .ok (.putfield 15, 3) := by decide +kernel
theorem dX6_init_18 : decode cX6_init 18 = .ok (.aload_n 0, 1) := by decide +kernel
theorem dX6_init_19 : decode cX6_init 19 = .ok (.aload_n 2, 1) := by decide +kernel
theorem dX6_init_20 : decode cX6_init 20 = .ok (.putfield 19, 3) := by decide +kernel
theorem dX6_init_23 : decode cX6_init 23 = .ok (.aload_n 0, 1) := by decide +kernel
theorem dX6_init_24 : decode cX6_init 24 = .ok (.aload_n 3, 1) := by decide +kernel
theorem dX6_init_25 : decode cX6_init 25 = .ok (.putfield 22, 3) := by decide +kernel
theorem dX6_init_28 : decode cX6_init 28 = .ok (.return_, 1) := by decide +kernel
set_option maxRecDepth 20000 in
theorem ggX6_tell_X7_at : GoodIn wsX6_tell wsX7_at := goodIn_r _ [6] rfl (by decide +kernel)
set_option maxRecDepth 20000 in
theorem gX6_tell_X7_at_n25 : GoodIn wsX6_tell (wsX7_at) := ggX6_tell_X7_at
set_option maxRecDepth 20000 in
theorem ggX6_tell_X7_put : GoodIn wsX6_tell wsX7_put := goodIn_r _ [8] rfl (by decide +kernel)
set_option maxRecDepth 20000 in
theorem gX6_tell_X7_put_n29 : GoodIn wsX6_tell (wsX7_put) := ggX6_tell_X7_put
set_option maxRecDepth 20000 in
theorem ggX6_tell_X6_joined : GoodIn wsX6_tell wsX6_joined := goodIn_r _ [12] rfl (by decide +kernel)
set_option maxRecDepth 20000 in
theorem gX6_tell_X6_joined : GoodIn wsX6_tell (va_wsS RX6 35 yX6_joined wsX6_joined) := goodIn_app (goodIn_of _ (by decide +kernel)) ggX6_tell_X6_joined
theorem dX6_tell_0 : decode cX6_tell 0 = .ok (.iconst 0, 1) := by decide +kernel
theorem dX6_tell_1 : decode cX6_tell 1 = .ok (.istore_n 3, 1) := by decide +kernel
theorem dX6_tell_2 : decode cX6_tell 2 = .ok (.aload_n 0, 1) := by decide +kernel
theorem dX6_tell_3 : decode cX6_tell 3 = .ok (.getfield 19, 3) := by decide +kernel
theorem dX6_tell_6 : decode cX6_tell 6 = .ok (.ifnull 7, 3) := by decide +kernel
theorem dX6_tell_9 : decode cX6_tell 9 = .ok (.aload_n 2, 1) := by decide +kernel
theorem dX6_tell_10 : decode cX6_tell 10 = .ok (.ifnonnull 5, 3) := by decide +kernel
theorem dX6_tell_13 : decode cX6_tell 13 = .ok (.iconst 0, 1) := by decide +kernel
theorem dX6_tell_14 : decode cX6_tell 14 = .ok (.ireturn, 1) := by decide +kernel
theorem dX6_tell_15 : decode cX6_tell 15 = .ok (.aload_n 0, 1) := by decide +kernel
theorem dX6_tell_16 : decode cX6_tell 16 = .ok (.getfield 22, 3) := by decide +kernel
theorem dX6_tell_19 : decode cX6_tell 19 = .ok (.iload_n 1, 1) := by decide +kernel
theorem dX6_tell_20 : decode cX6_tell 20 = .ok (.invokestatic 25, 3) := by decide +kernel
theorem dX6_tell_23 : decode cX6_tell 23 = .ok (.istore 4, 2) := by decide +kernel
theorem dX6_tell_25 : decode cX6_tell 25 = .ok (.iload 4, 2) := by decide +kernel
theorem dX6_tell_27 : decode cX6_tell 27 = .ok (.ifCond .lt 199, 3) := by decide +kernel
theorem dX6_tell_30 : decode cX6_tell 30 = .ok (.iload 4, 2) := by decide +kernel
theorem dX6_tell_32 : decode cX6_tell 32 = .ok (.aload_n 0, 1) := by decide +kernel
theorem dX6_tell_33 : decode cX6_tell 33 = .ok (.getfield 19, 3) := by decide +kernel
theorem dX6_tell_36 : decode cX6_tell 36 = .ok (.arraylength, 1) := by decide +kernel
theorem dX6_tell_37 : decode cX6_tell 37 = .ok (.if_icmp .ge 189, 3) := by decide +kernel
theorem dX6_tell_40 : decode cX6_tell 40 = .ok (.aload_n 0, 1) := by decide +kernel
theorem dX6_tell_41 : decode cX6_tell 41 = .ok (.getfield 19, 3) := by decide +kernel
theorem dX6_tell_44 : decode cX6_tell 44 = .ok (.iload 4, 2) := by decide +kernel
theorem dX6_tell_46 : decode cX6_tell 46 = .ok (.iaload, 1) := by decide +kernel
theorem dX6_tell_47 : decode cX6_tell 47 = .ok (.bipush (-59), 2) := by decide +kernel
theorem dX6_tell_49 : decode cX6_tell 49 = .ok (.if_icmp .eq 177, 3) := by decide +kernel
theorem dX6_tell_52 : decode cX6_tell 52 = .ok (.aload_n 0, 1) := by decide +kernel
theorem dX6_tell_53 : decode cX6_tell 53 = .ok (.getfield 19, 3) := by decide +kernel
theorem dX6_tell_56 : decode cX6_tell 56 = .ok (.iload 4, 2) := by decide +kernel
theorem dX6_tell_58 : decode cX6_tell 58 = .ok (.iaload, 1) := by decide +kernel
theorem dX6_tell_59 : decode cX6_tell 59 = .ok (.istore 5, 2) := by decide +kernel
theorem dX6_tell_61 : decode cX6_tell 61 = .ok (.iload 5, 2) := by decide +kernel
theorem dX6_tell_63 : decode cX6_tell 63 = .ok (.ifCond .lt 19, 3) := by decide +kernel
theorem dX6_tell_66 : decode cX6_tell 66 = .ok (.aload_n 0, 1) := by decide +kernel
theorem dX6_tell_67 : decode cX6_tell 67 = .ok (.getfield 9, 3) := by decide +kernel
theorem dX6_tell_70 : decode cX6_tell 70 = .ok (.iload_n 3, 1) := by decide +kernel
theorem dX6_tell_71 : decode cX6_tell 71 = .ok (.iload 5, 2) := by decide +kernel
theorem dX6_tell_73 : decode cX6_tell 73 = .ok (.invokestatic 29, 3) := by decide +kernel
theorem dX6_tell_76 : decode cX6_tell 76 = .ok (.iinc 3 1, 3) := by decide +kernel
theorem dX6_tell_79 : decode cX6_tell 79 = .ok (.goto 141, 3) := by decide +kernel
theorem dX6_tell_82 : decode cX6_tell 82 = .ok (.iload 5, 2) := by decide +kernel
theorem dX6_tell_84 : decode cX6_tell 84 = .ok (.bipush (-100), 2) := by decide +kernel
theorem dX6_tell_86 : decode cX6_tell 86 = .ok (.if_icmp .gt 26, 3) := by decide +kernel
theorem dX6_tell_89 : decode cX6_tell 89 = .ok (.aload_n 0, 1) := by decide +kernel
theorem dX6_tell_90 : decode cX6_tell 90 = .ok (.getfield 9, 3) := by decide +kernel
theorem dX6_tell_93 : decode cX6_tell 93 = .ok (.iload_n 3, 1) := by decide +kernel
theorem dX6_tell_94 : decode cX6_tell 94 = .ok (.aload_n 2, 1) := by decide +kernel
theorem dX6_tell_95 : decode cX6_tell 95 = .ok (.bipush (-100), 2) := by decide +kernel
theorem dX6_tell_97 : decode cX6_tell 97 = .ok (.iload 5, 2) := by decide +kernel
theorem dX6_tell_99 : decode cX6_tell 99 = .ok (.isub, 1) := by decide +kernel
theorem dX6_tell_100 : decode cX6_tell 100 = .ok (.invokestatic 25, 3) := by decide +kernel
theorem dX6_tell_103 : decode cX6_tell 103 = .ok (.invokestatic 29, 3) := by decide +kernel
theorem dX6_tell_106 : decode cX6_tell 106 = .ok (.iinc 3 1, 3) := by decide +kernel
theorem dX6_tell_109 : decode cX6_tell 109 = .ok (.goto 111, 3) := by decide +kernel
theorem dX6_tell_112 : decode cX6_tell 112 = .ok (.iload 5, 2) := by decide +kernel
theorem dX6_tell_114 : decode cX6_tell 114 = .ok (.bipush (-9), 2) := by decide +kernel
theorem dX6_tell_116 : decode cX6_tell 116 = .ok (.if_icmp .ne 27, 3) := by decide +kernel
theorem dX6_tell_119 : decode cX6_tell 119 = .ok (.aload_n 0, 1) := by decide +kernel
theorem dX6_tell_120 : decode cX6_tell 120 = .ok (.getfield 9, 3) := by decide +kernel
theorem dX6_tell_123 : decode cX6_tell 123 = .ok (.iload_n 3, 1) := by decide +kernel
theorem dX6_tell_124 : decode cX6_tell 124 = .ok (.iconst 1, 1) := by decide +kernel
theorem dX6_tell_125 : decode cX6_tell 125 = .ok (.isub, 1) := by decide +kernel
theorem dX6_tell_126 : decode cX6_tell 126 = .ok (.aload_n 0, 1) := by decide +kernel
theorem dX6_tell_127 : decode cX6_tell 127 = .ok (.getfield 9, 3) := by decide +kernel
theorem dX6_tell_130 : decode cX6_tell 130 = .ok (.iload_n 3, 1) := by decide +kernel
theorem dX6_tell_131 : decode cX6_tell 131 = .ok (.iconst 1, 1) := by decide +kernel
theorem dX6_tell_132 : decode cX6_tell 132 = .ok (.isub, 1) := by decide +kernel
theorem dX6_tell_133 : decode cX6_tell 133 = .ok (.invokestatic 25, 3) := by decide +kernel
theorem dX6_tell_136 : decode cX6_tell 136 = .ok (.ineg, 1) := by decide +kernel
theorem dX6_tell_137 : decode cX6_tell 137 = .ok (.invokestatic 29, 3) := by decide +kernel
theorem dX6_tell_140 : decode cX6_tell 140 = .ok (.goto 80, 3) := by decide +kernel
theorem dX6_tell_143 : decode cX6_tell 143 = .ok (.iload 5, 2) := by decide +kernel
theorem dX6_tell_145 : decode cX6_tell 145 = .ok (.bipush (-8), 2) := by decide +kernel
theorem dX6_tell_147 : decode cX6_tell 147 = .ok (.if_icmp .ne 34, 3) := by decide +kernel
theorem dX6_tell_150 : decode cX6_tell 150 = .ok (.aload_n 0, 1) := by decide +kernel
theorem dX6_tell_151 : decode cX6_tell 151 = .ok (.getfield 9, 3) := by decide +kernel
theorem dX6_tell_154 : decode cX6_tell 154 = .ok (.iload_n 3, 1) := by decide +kernel
theorem dX6_tell_155 : decode cX6_tell 155 = .ok (.iconst 1, 1) := by decide +kernel
theorem dX6_tell_156 : decode cX6_tell 156 = .ok (.isub, 1) := by decide +kernel
theorem dX6_tell_157 : decode cX6_tell 157 = .ok (.aload_n 0, 1) := by decide +kernel
theorem dX6_tell_158 : decode cX6_tell 158 = .ok (.getfield 9, 3) := by decide +kernel
theorem dX6_tell_161 : decode cX6_tell 161 = .ok (.iload_n 3, 1) := by decide +kernel
theorem dX6_tell_162 : decode cX6_tell 162 = .ok (.iconst 1, 1) := by decide +kernel
theorem dX6_tell_163 : decode cX6_tell 163 = .ok (.isub, 1) := by decide +kernel
theorem dX6_tell_164 : decode cX6_tell 164 = .ok (.invokestatic 25, 3) := by decide +kernel
theorem dX6_tell_167 : decode cX6_tell 167 = .ok (.ifCond .ne 7, 3) := by decide +kernel
theorem dX6_tell_170 : decode cX6_tell 170 = .ok (.iconst 1, 1) := by decide +kernel
theorem dX6_tell_171 : decode cX6_tell 171 = .ok (.goto 4, 3) := by decide +kernel
theorem dX6_tell_174 : decode cX6_tell 174 = .ok (.iconst 0, 1) := by decide +kernel
theorem dX6_tell_175 : decode cX6_tell 175 = .ok (.invokestatic 29, 3) := by decide +kernel
theorem dX6_tell_178 : decode cX6_tell 178 = .ok (.goto 42, 3) := by decide +kernel
theorem dX6_tell_181 : decode cX6_tell 181 = .ok (.aload_n 0, 1) := by decide +kernel
theorem dX6_tell_182 : decode cX6_tell 182 = .ok (.getfield 9, 3) := by decide +kernel
theorem dX6_tell_185 : decode cX6_tell 185 = .ok (.iload_n 3, 1) := by decide +kernel
theorem dX6_tell_186 : decode cX6_tell 186 = .ok (.iconst 2, 1) := by decide +kernel
theorem dX6_tell_187 : decode cX6_tell 187 = .ok (.isub, 1) := by decide +kernel
theorem dX6_tell_188 : decode cX6_tell 188 = .ok (.iload 5, 2) := by decide +kernel
theorem dX6_tell_190 : decode cX6_tell 190 = .ok (.ineg, 1) := by decide +kernel
theorem dX6_tell_191 : decode cX6_tell 191 = .ok (.aload_n 0, 1) := by decide +kernel
theorem dX6_tell_192 : decode cX6_tell 192 = .ok (.getfield 9, 3) := by decide +kernel
theorem dX6_tell_195 : decode cX6_tell 195 = .ok (.iload_n 3, 1) := by decide +kernel
theorem dX6_tell_196 : decode cX6_tell 196 = .ok (.iconst 2, 1) := by decide +kernel
theorem dX6_tell_197 : decode cX6_tell 197 = .ok (.isub, 1) := by decide +kernel
theorem dX6_tell_198 : decode cX6_tell 198 = .ok (.invokestatic 25, 3) := by decide +kernel
theorem dX6_tell_201 : decode cX6_tell 201 = .ok (.aload_n 0, 1) := by decide +kernel
theorem dX6_tell_202 : decode cX6_tell 202 = .ok (.getfield 9, 3) := by decide +kernel
theorem dX6_tell_205 : decode cX6_tell 205 = .ok (.iload_n 3, 1) := by decide +kernel
theorem dX6_tell_206 : decode cX6_tell 206 = .ok (.iconst 1, 1) := by decide +kernel
theorem dX6_tell_207 : decode cX6_tell 207 = .ok (.isub, 1) := by decide +kernel
theorem dX6_tell_208 : decode cX6_tell 208 = .ok (.invokestatic 25, 3) := by decide +kernel
theorem dX6_tell_211 : decode cX6_tell 211 = .ok (.invokestatic 35, 3) := by decide +kernel
theorem dX6_tell_214 : decode cX6_tell 214 = .ok (.invokestatic 29, 3) := by decide +kernel
theorem dX6_tell_217 : decode cX6_tell 217 = .ok (.iinc 3 (-1), 3) := by decide +kernel
theorem dX6_tell_220 : decode cX6_tell 220 = .ok (.iinc 4 1, 3) := by decide +kernel
theorem dX6_tell_223 : decode cX6_tell 223 = .ok (.goto (-198), 3) := by decide +kernel
theorem dX6_tell_226 : decode cX6_tell 226 = .ok (.aload_n 0, 1) := by decide +kernel
theorem dX6_tell_227 : decode cX6_tell 227 = .ok (.getfield 9, 3) := by decide +kernel
theorem dX6_tell_230 : decode cX6_tell 230 = .ok (.iconst 0, 1) := by decide +kernel
theorem dX6_tell_231 : decode cX6_tell 231 = .ok (.invokestatic 25, 3) := by decide +kernel
theorem dX6_tell_234 : decode cX6_tell 234 = .ok (.ireturn, 1) := by decide +kernel
theorem dX6_joined_0 : decode cX6_joined 0 = .ok (.iload_n 0, 1) := by decide +kernel
theorem dX6_joined_1 : decode cX6_joined 1 = .ok (.lookupswitch 107 #[(7, 93), (42, 59), (43, 63), (45, 67), (60, 71), (61, 82)], 59) := by decide +kernel
theorem dX6_joined_60 : decode cX6_joined 60 = .ok (.iload_n 1, 1) := by decide +kernel
theorem dX6_joined_61 : decode cX6_joined 61 = .ok (.iload_n 2, 1) := by decide +kernel
theorem dX6_joined_62 : decode cX6_joined 62 = .ok (.imul, 1) := by decide +kernel
theorem dX6_joined_63 : decode cX6_joined 63 = .ok (.ireturn, 1) := by decide +kernel
theorem dX6_joined_64 : decode cX6_joined 64 = .ok (.iload_n 1, 1) := by decide +kernel
theorem dX6_joined_65 : decode cX6_joined 65 = .ok (.iload_n 2, 1) := by decide +kernel
theorem dX6_joined_66 : decode cX6_joined 66 = .ok (.iadd, 1) := by decide +kernel
theorem dX6_joined_67 : decode cX6_joined 67 = .ok (.ireturn, 1) := by decide +kernel
theorem dX6_joined_68 : decode cX6_joined 68 = .ok (.iload_n 1, 1) := by decide +kernel
theorem dX6_joined_69 : decode cX6_joined 69 = .ok (.iload_n 2, 1) := by decide +kernel
theorem dX6_joined_70 : decode cX6_joined 70 = .ok (.isub, 1) := by decide +kernel
theorem dX6_joined_71 : decode cX6_joined 71 = .ok (.ireturn, 1) := by decide +kernel
theorem dX6_joined_72 : decode cX6_joined 72 = .ok (.iload_n 1, 1) := by decide +kernel
theorem dX6_joined_73 : decode cX6_joined 73 = .ok (.iload_n 2, 1) := by decide +kernel
theorem dX6_joined_74 : decode cX6_joined 74 = .ok (.if_icmp .ge 7, 3) := by decide +kernel
theorem dX6_joined_77 : decode cX6_joined 77 = .ok (.iconst 1, 1) := by decide +kernel
theorem dX6_joined_78 : decode cX6_joined 78 = .ok (.goto 4, 3) := by decide +kernel
theorem dX6_joined_81 : decode cX6_joined 81 = .ok (.iconst 0, 1) := by decide +kernel
theorem dX6_joined_82 : decode cX6_joined 82 = .ok (.ireturn, 1) := by decide +kernel
theorem dX6_joined_83 : decode cX6_joined 83 = .ok (.iload_n 1, 1) := by decide +kernel
theorem dX6_joined_84 : decode cX6_joined 84 = .ok (.iload_n 2, 1) := by decide +kernel
theorem dX6_joined_85 : decode cX6_joined 85 = .ok (.if_icmp .ne 7, 3) := by decide +kernel
theorem dX6_joined_88 : decode cX6_joined 88 = .ok (.iconst 1, 1) := by decide +kernel
theorem dX6_joined_89 : decode cX6_joined 89 = .ok (.goto 4, 3) := by decide +kernel
theorem dX6_joined_92 : decode cX6_joined 92 = .ok (.iconst 0, 1) := by decide +kernel
theorem dX6_joined_93 : decode cX6_joined 93 = .ok (.ireturn, 1) := by decide +kernel
theorem dX6_joined_94 : decode cX6_joined 94 = .ok (.iload_n 1, 1) := by decide +kernel
theorem dX6_joined_95 : decode cX6_joined 95 = .ok (.ifCond .eq 11, 3) := by decide +kernel
theorem dX6_joined_98 : decode cX6_joined 98 = .ok (.iload_n 2, 1) := by decide +kernel
theorem dX6_joined_99 : decode cX6_joined 99 = .ok (.ifCond .eq 7, 3) := by decide +kernel
theorem dX6_joined_102 : decode cX6_joined 102 = .ok (.iconst 1, 1) := by decide +kernel
theorem dX6_joined_103 : decode cX6_joined 103 = .ok (.goto 4, 3) := by decide +kernel
theorem dX6_joined_106 : decode cX6_joined 106 = .ok (.iconst 0, 1) := by decide +kernel
theorem dX6_joined_107 : decode cX6_joined 107 = .ok (.ireturn, 1) := by decide +kernel
theorem dX6_joined_108 : decode cX6_joined 108 = .ok (.iload_n 1, 1) := by decide +kernel
theorem dX6_joined_109 : decode cX6_joined 109 = .ok (.ifCond .ne 7, 3) := by decide +kernel
theorem dX6_joined_112 : decode cX6_joined 112 = .ok (.iload_n 2, 1) := by decide +kernel
theorem dX6_joined_113 : decode cX6_joined 113 = .ok (.ifCond .eq 7, 3) := by decide +kernel
theorem dX6_joined_116 : decode cX6_joined 116 = .ok (.iconst 1, 1) := by decide +kernel
theorem dX6_joined_117 : decode cX6_joined 117 = .ok (.goto 4, 3) := by decide +kernel
theorem dX6_joined_120 : decode cX6_joined 120 = .ok (.iconst 0, 1) := by decide +kernel
theorem dX6_joined_121 : decode cX6_joined 121 = .ok (.ireturn, 1) := by decide +kernel
set_option maxRecDepth 20000 in
theorem ggX7_init_X2_init : GoodIn wsX7_init wsX2_init := goodIn_r _ [31, 32, 2, 3, 25, 33, 34, 35, 36, 37, 254, 255, 256, 257, 258, 259, 260, 261] rfl (by decide +kernel)
set_option maxRecDepth 20000 in
theorem gX7_init_X2_init_n9 : GoodIn wsX7_init (wsX2_init) := ggX7_init_X2_init
set_option maxRecDepth 20000 in
theorem ggX7_init_X4_init : GoodIn wsX7_init wsX4_init := goodIn_r _ [39, 40, 2, 3, 25, 41, 42, 43, 44, 45, 46, 272, 273, 274, 275, 276, 277, 278, 279, 280, 281, 282] rfl (by decide +kernel)
set_option maxRecDepth 20000 in
theorem gX7_init_X4_init_n21 : GoodIn wsX7_init (wsX4_init) := ggX7_init_X4_init
set_option maxRecDepth 20000 in
theorem ggX7_init_X0_init : GoodIn wsX7_init wsX0_init := goodIn_r _ [48, 49, 2, 3, 25, 50, 283, 284, 285, 286] rfl (by decide +kernel)
set_option maxRecDepth 20000 in
theorem gX7_init_X0_init_n40 : GoodIn wsX7_init (wsX0_init) := ggX7_init_X0_init
set_option maxRecDepth 20000 in
theorem ggX7_init_X3_init : GoodIn wsX7_init wsX3_init := goodIn_r _ [52, 53, 2, 3, 54, 18, 19, 55, 25, 56, 57, 58, 59, 60, 61, 47, 48, 49, 50, 283, 284, 285, 286, 287, 288, 289, 290, 291, 292, 293, 294, 295, 296, 297, 298, 299, 300, 301, 302, 303] rfl (by decide +kernel)
set_option maxRecDepth 20000 in
theorem gX7_init_X3_init_n47 : GoodIn wsX7_init (wsX3_init) := ggX7_init_X3_init
set_option maxRecDepth 20000 in
theorem ggX7_init_X5_init : GoodIn wsX7_init wsX5_init := goodIn_r _ [63, 64, 2, 3, 25, 65, 66, 304, 305, 306] rfl (by decide +kernel)
set_option maxRecDepth 20000 in
theorem gX7_init_X5_init_n56 : GoodIn wsX7_init (wsX5_init) := ggX7_init_X5_init
set_option maxRecDepth 20000 in
theorem ggX7_init_J0_length_8abf5 : GoodIn wsX7_init wsJ0_length_8abf5 := goodIn_r _ [71, 72, 73, 74, 75, 70, 76, 77, 78] rfl (by decide +kernel)
set_option maxRecDepth 20000 in
theorem gX7_init_J0_length_8abf5 : GoodIn wsX7_init (wsV RX7 59 RJ0 yJ0_length_8abf5 wsJ0_length_8abf5) := goodIn_app (goodIn_of _ (by decide +kernel)) ggX7_init_J0_length_8abf5
set_option maxRecDepth 20000 in
theorem ggX7_init_J0_charAt_5068e : GoodIn wsX7_init wsJ0_charAt_5068e := goodIn_r _ [82, 72, 83, 84, 85, 70, 86, 77, 78, 87, 88, 89, 90, 91, 92, 93, 94, 95, 96, 97, 98, 99, 100, 101, 102, 103, 104, 105, 106, 107, 108, 109, 110, 111, 112, 113, 114, 115] rfl (by decide +kernel)
set_option maxRecDepth 20000 in
theorem gX7_init_J0_charAt_5068e : GoodIn wsX7_init (wsV RX7 65 RJ0 yJ0_charAt_5068e wsJ0_charAt_5068e) := goodIn_app (goodIn_of _ (by decide +kernel)) ggX7_init_J0_charAt_5068e
set_option maxRecDepth 20000 in
theorem ggX7_init_X4_append : GoodIn wsX7_init wsX4_append := goodIn_r _ [119, 120, 41, 121, 122, 123, 272, 273, 274, 275, 276, 277, 278, 279, 280, 281, 282] rfl (by decide +kernel)
set_option maxRecDepth 20000 in
theorem gX7_init_X4_append : GoodIn wsX7_init (wsV RX7 69 RX4 yX4_append wsX4_append) := goodIn_app (goodIn_of _ (by decide +kernel)) ggX7_init_X4_append
set_option maxRecDepth 20000 in
theorem ggX7_init_X4_read : GoodIn wsX7_init wsX4_read := goodIn_r _ [127, 128, 129, 130, 46, 120, 45, 131, 132, 133, 134, 135, 136, 11, 137, 138, 139, 140, 141, 142, 143, 144, 145, 146, 41, 147, 148, 149, 150, 151, 152, 153, 154, 155, 156, 157, 158, 68, 69, 70, 71, 72, 73, 74, 75, 76, 77, 78, 159, 160, 161, 162, 80, 81, 82, 83, 84, 85, 86, 87, 88, 89, 90, 91, 92, 93, 94, 95, 96, 97, 98, 99, 100, 101, 102, 103, 104, 105, 106, 107, 108, 109, 110, 111, 112, 113, 114, 115, 163, 164, 165, 166, 42, 43, 44, 121, 122, 123, 167, 168, 169, 170, 171, 172, 173, 174, 175, 176, 177, 178, 179, 180, 181, 182, 183, 184, 185, 186, 187, 188, 189, 190, 191, 192, 193, 194, 195, 196, 197, 198, 199, 200, 201, 202, 203, 204, 205, 206, 207, 208, 209, 210, 211, 212, 213, 214, 215, 216, 217, 218, 219, 220, 221, 222, 223, 224, 225, 226, 227, 228, 25, 229, 230, 231, 232, 233, 234, 235, 236, 237, 238, 239, 240, 2, 3, 241, 242, 243, 244, 272, 273, 274, 275, 276, 277, 278, 279, 280, 281, 282, 307, 308, 309, 310] rfl (by decide +kernel)
set_option maxRecDepth 20000 in
theorem gX7_init_X4_read : GoodIn wsX7_init (wsV RX7 73 RX4 yX4_read wsX4_read) := goodIn_app (goodIn_of _ (by decide +kernel)) ggX7_init_X4_read
set_option maxRecDepth 20000 in
theorem ggX7_init_X7_keepText : GoodIn wsX7_init wsX7_keepText := goodIn_r _ [248, 249, 14, 262, 263, 264, 265, 266, 267, 268, 269, 270, 271] rfl (by decide +kernel)
set_option maxRecDepth 20000 in
theorem gX7_init_X7_keepText : GoodIn wsX7_init (wsV RX7 77 RX7 yX7_keepText wsX7_keepText) := goodIn_app (goodIn_of _ (by decide +kernel)) ggX7_init_X7_keepText
set_option maxRecDepth 20000 in
theorem ggX7_init_X7_textAt : GoodIn wsX7_init wsX7_textAt := goodIn_r _ [253, 249, 14, 262, 263, 264, 265, 266, 267, 268, 269, 270, 271] rfl (by decide +kernel)
set_option maxRecDepth 20000 in
theorem gX7_init_X7_textAt : GoodIn wsX7_init (wsV RX7 81 RX7 yX7_textAt wsX7_textAt) := goodIn_app (goodIn_of _ (by decide +kernel)) ggX7_init_X7_textAt
theorem dX7_init_0 : decode cX7_init 0 = .ok (.aload_n 0, 1) := by decide +kernel
theorem dX7_init_1 : decode cX7_init 1 = .ok (.invokespecial 1, 3) := by decide +kernel
theorem dX7_init_4 : decode cX7_init 4 = .ok (.aload_n 0, 1) := by decide +kernel
theorem dX7_init_5 : decode cX7_init 5 = .ok (.new 7, 3) := by decide +kernel
theorem dX7_init_8 : decode cX7_init 8 = .ok (.dup, 1) := by decide +kernel
theorem dX7_init_9 : decode cX7_init 9 = .ok (.invokespecial 9, 3) := by decide +kernel
theorem dX7_init_12 : decode cX7_init 12 = .ok (.putfield 10, 3) := by decide +kernel
theorem dX7_init_15 : decode cX7_init 15 = .ok (.aload_n 0, 1) := by decide +kernel
theorem dX7_init_16 : decode cX7_init 16 = .ok (.new 7, 3) := by decide +kernel
theorem dX7_init_19 : decode cX7_init 19 = .ok (.dup, 1) := by decide +kernel
theorem dX7_init_20 : decode cX7_init 20 = .ok (.invokespecial 9, 3) := by decide +kernel
theorem dX7_init_23 : decode cX7_init 23 = .ok (.putfield 16, 3) := by decide +kernel
theorem dX7_init_26 : decode cX7_init 26 = .ok (.aload_n 0, 1) := by decide +kernel
theorem dX7_init_27 : decode cX7_init 27 = .ok (.new 19, 3) := by decide +kernel
theorem dX7_init_30 : decode cX7_init 30 = .ok (.dup, 1) := by decide +kernel
theorem dX7_init_31 : decode cX7_init 31 = .ok (.invokespecial 21, 3) := by decide +kernel
theorem dX7_init_34 : decode cX7_init 34 = .ok (.putfield 22, 3) := by decide +kernel
theorem dX7_init_37 : decode cX7_init 37 = .ok (.aload_n 0, 1) := by decide +kernel
theorem dX7_init_38 : decode cX7_init 38 = .ok (.bipush 6, 2) := by decide +kernel
theorem dX7_init_40 : decode cX7_init 40 = .ok (.anewarray 26, 3) := by decide +kernel
theorem dX7_init_43 : decode cX7_init 43 = .ok (.putfield 28, 3) := by decide +kernel
theorem dX7_init_46 : decode cX7_init 46 = .ok (.aload_n 0, 1) := by decide +kernel
theorem dX7_init_47 : decode cX7_init 47 = .ok (.iconst 4, 1) := by decide +kernel
theorem dX7_init_48 : decode cX7_init 48 = .ok (.anewarray 32, 3) := by decide +kernel
theorem dX7_init_51 : decode cX7_init 51 = .ok (.putfield 34, 3) := by decide +kernel
theorem dX7_init_54 : decode cX7_init 54 = .ok (.aload_n 0, 1) := by decide +kernel
theorem dX7_init_55 : decode cX7_init 55 = .ok (.new 38, 3) := by decide +kernel
theorem dX7_init_58 : decode cX7_init 58 = .ok (.dup, 1) := by decide +kernel
theorem dX7_init_59 : decode cX7_init 59 = .ok (.invokespecial 40, 3) := by decide +kernel
theorem dX7_init_62 : decode cX7_init 62 = .ok (.putfield 41, 3) := by decide +kernel
theorem dX7_init_65 : decode cX7_init 65 = .ok (.aload_n 0, 1) := by decide +kernel
theorem dX7_init_66 : decode cX7_init 66 = .ok (.new 45, 3) := by decide +kernel
theorem dX7_init_69 : decode cX7_init 69 = .ok (.dup, 1) := by decide +kernel
theorem dX7_init_70 : decode cX7_init 70 = .ok (.invokespecial 47, 3) := by decide +kernel
theorem dX7_init_73 : decode cX7_init 73 = .ok (.putfield 48, 3) := by decide +kernel
theorem dX7_init_76 : decode cX7_init 76 = .ok (.aload_n 0, 1) := by decide +kernel
theorem dX7_init_77 : decode cX7_init 77 = .ok (.bipush 48, 2) := by decide +kernel
theorem dX7_init_79 : decode cX7_init 79 = .ok (.newarray .int, 2) := by decide +kernel
theorem dX7_init_81 : decode cX7_init 81 = .ok (.putfield 52, 3) := by decide +kernel
theorem dX7_init_84 : decode cX7_init 84 = .ok (.iconst 0, 1) := by decide +kernel
theorem dX7_init_85 : decode cX7_init 85 = .ok (.istore_n 1, 1) := by decide +kernel
theorem dX7_init_86 : decode cX7_init 86 = .ok (.iload_n 1, 1) := by decide +kernel
theorem dX7_init_87 : decode cX7_init 87 = .ok (.aload_n 0, 1) := by decide +kernel
theorem dX7_init_88 : decode cX7_init 88 = .ok (.getfield 34, 3) := by decide +kernel
theorem dX7_init_91 : decode cX7_init 91 = .ok (.arraylength, 1) := by decide +kernel
theorem dX7_init_92 : decode cX7_init 92 = .ok (.if_icmp .ge 22, 3) := by decide +kernel
theorem dX7_init_95 : decode cX7_init 95 = .ok (.aload_n 0, 1) := by decide +kernel
theorem dX7_init_96 : decode cX7_init 96 = .ok (.getfield 34, 3) := by decide +kernel
theorem dX7_init_99 : decode cX7_init 99 = .ok (.iload_n 1, 1) := by decide +kernel
theorem dX7_init_100 : decode cX7_init 100 = .ok (.new 32, 3) := by decide +kernel
theorem dX7_init_103 : decode cX7_init 103 = .ok (.dup, 1) := by decide +kernel
theorem dX7_init_104 : decode cX7_init 104 = .ok (.invokespecial 56, 3) := by decide +kernel
theorem dX7_init_107 : decode cX7_init 107 = .ok (.aastore, 1) := by decide +kernel
theorem dX7_init_108 : decode cX7_init 108 = .ok (.iinc 1 1, 3) := by decide +kernel
theorem dX7_init_111 : decode cX7_init 111 = .ok (.goto (-25), 3) := by decide +kernel
theorem dX7_init_114 : decode cX7_init 114 = .ok (.iconst 0, 1) := by decide +kernel
theorem dX7_init_115 : decode cX7_init 115 = .ok (.istore_n 1, 1) := by decide +kernel
theorem dX7_init_116 : decode cX7_init 116 = .ok (.iload_n 1, 1) := by decide +kernel
theorem dX7_init_117 : decode cX7_init 117 = .ok (.ldc 57, 2) := by decide +kernel
theorem dX7_init_119 : decode cX7_init 119 = .ok (.invokevirtual 59, 3) := by decide +kernel
theorem dX7_init_122 : decode cX7_init 122 = .ok (.if_icmp .ge 23, 3) := by decide +kernel
theorem dX7_init_125 : decode cX7_init 125 = .ok (.aload_n 0, 1) := by decide +kernel
theorem dX7_init_126 : decode cX7_init 126 = .ok (.getfield 22, 3) := by decide +kernel
theorem dX7_init_129 : decode cX7_init 129 = .ok (.ldc 57, 2) := by decide +kernel
theorem dX7_init_131 : decode cX7_init 131 = .ok (.iload_n 1, 1) := by decide +kernel
theorem dX7_init_132 : decode cX7_init 132 = .ok (.invokevirtual 65, 3) := by decide +kernel
theorem dX7_init_135 : decode cX7_init 135 = .ok (.invokevirtual 69, 3) := by decide +kernel
theorem dX7_init_138 : decode cX7_init 138 = .ok (.pop, 1) := by decide +kernel
theorem dX7_init_139 : decode cX7_init 139 = .ok (.iinc 1 1, 3) := by decide +kernel
theorem dX7_init_142 : decode cX7_init 142 = .ok (.goto (-26), 3) := by decide +kernel
theorem dX7_init_145 : decode cX7_init 145 = .ok (.aload_n 0, 1) := by decide +kernel
theorem dX7_init_146 : decode cX7_init 146 = .ok (.aload_n 0, 1) := by decide +kernel
theorem dX7_init_147 : decode cX7_init 147 = .ok (.getfield 22, 3) := by decide +kernel
theorem dX7_init_150 : decode cX7_init 150 = .ok (.iconst 0, 1) := by decide +kernel
theorem dX7_init_151 : decode cX7_init 151 = .ok (.invokevirtual 73, 3) := by decide +kernel
theorem dX7_init_154 : decode cX7_init 154 = .ok (.invokevirtual 77, 3) := by decide +kernel
theorem dX7_init_157 : decode cX7_init 157 = .ok (.aload_n 0, 1) := by decide +kernel
theorem dX7_init_158 : decode cX7_init 158 = .ok (.getfield 10, 3) := by decide +kernel
theorem dX7_init_161 : decode cX7_init 161 = .ok (.aload_n 0, 1) := by decide +kernel
theorem dX7_init_162 : decode cX7_init 162 = .ok (.iconst 0, 1) := by decide +kernel
theorem dX7_init_163 : decode cX7_init 163 = .ok (.invokevirtual 81, 3) := by decide +kernel
theorem dX7_init_166 : decode cX7_init 166 = .ok (.putfield 84, 3) := by decide +kernel
theorem dX7_init_169 : decode cX7_init 169 = .ok (.return_, 1) := by decide +kernel
set_option maxRecDepth 20000 in
theorem ggX7_set_X7_told : GoodIn wsX7_set wsX7_told := goodIn_r _ [12, 2, 3, 4, 5, 6, 7, 13, 14, 15, 11, 16, 17, 18, 19, 20, 21, 22, 23, 24, 25, 29, 30, 31, 32, 33, 34, 35, 36, 37, 38, 39, 40, 41, 42, 43, 44, 45, 46] rfl (by decide +kernel)
set_option maxRecDepth 20000 in
theorem gX7_set_X7_told : GoodIn wsX7_set (wsV RX7 91 RX7 yX7_told wsX7_told) := goodIn_app (goodIn_of _ (by decide +kernel)) ggX7_set_X7_told
set_option maxRecDepth 20000 in
theorem ggX7_set_X7_rainPlace : GoodIn wsX7_set wsX7_rainPlace := goodIn_r _ [16] rfl (by decide +kernel)
set_option maxRecDepth 20000 in
theorem gX7_set_X7_rainPlace : GoodIn wsX7_set (va_wsS RX7 102 yX7_rainPlace wsX7_rainPlace) := goodIn_app (goodIn_of _ (by decide +kernel)) ggX7_set_X7_rainPlace
set_option maxRecDepth 20000 in
theorem ggX7_set_X7_put : GoodIn wsX7_set wsX7_put := goodIn_r _ [28] rfl (by decide +kernel)
set_option maxRecDepth 20000 in
theorem gX7_set_X7_put : GoodIn wsX7_set (va_wsS RX7 106 yX7_put wsX7_put) := goodIn_app (goodIn_of _ (by decide +kernel)) ggX7_set_X7_put
theorem dX7_set_0 : decode cX7_set 0 = .ok (.iload_n 1, 1) := by decide +kernel
theorem dX7_set_1 : decode cX7_set 1 = .ok (.ifCond .lt 24, 3) := by decide +kernel
theorem dX7_set_4 : decode cX7_set 4 = .ok (.iload_n 1, 1) := by decide +kernel
theorem dX7_set_5 : decode cX7_set 5 = .ok (.getstatic 88, 3) := by decide +kernel
theorem dX7_set_8 : decode cX7_set 8 = .ok (.arraylength, 1) := by decide +kernel
theorem dX7_set_9 : decode cX7_set 9 = .ok (.if_icmp .ge 16, 3) := by decide +kernel
theorem dX7_set_12 : decode cX7_set 12 = .ok (.iload_n 3, 1) := by decide +kernel
theorem dX7_set_13 : decode cX7_set 13 = .ok (.ifCond .lt 12, 3) := by decide +kernel
theorem dX7_set_16 : decode cX7_set 16 = .ok (.iload_n 3, 1) := by decide +kernel
theorem dX7_set_17 : decode cX7_set 17 = .ok (.getstatic 88, 3) := by decide +kernel
theorem dX7_set_20 : decode cX7_set 20 = .ok (.iload_n 1, 1) := by decide +kernel
theorem dX7_set_21 : decode cX7_set 21 = .ok (.iaload, 1) := by decide +kernel
theorem dX7_set_22 : decode cX7_set 22 = .ok (.if_icmp .le 6, 3) := by decide +kernel
theorem dX7_set_25 : decode cX7_set 25 = .ok (.bipush (-2), 2) := by decide +kernel
theorem dX7_set_27 : decode cX7_set 27 = .ok (.ireturn, 1) := by decide +kernel
theorem dX7_set_28 : decode cX7_set 28 = .ok (.aload_n 0, 1) := by decide +kernel
theorem dX7_set_29 : decode cX7_set 29 = .ok (.iload_n 2, 1) := by decide +kernel
theorem dX7_set_30 : decode cX7_set 30 = .ok (.iload_n 1, 1) := by decide +kernel
theorem dX7_set_31 : decode cX7_set 31 = .ok (.invokevirtual 91, 3) := by decide +kernel
theorem dX7_set_34 : decode cX7_set 34 = .ok (.istore 4, 2) := by decide +kernel
theorem dX7_set_36 : decode cX7_set 36 = .ok (.iload 4, 2) := by decide +kernel
theorem dX7_set_38 : decode cX7_set 38 = .ok (.bipush (-2), 2) := by decide +kernel
theorem dX7_set_40 : decode cX7_set 40 = .ok (.if_icmp .ne 6, 3) := by decide +kernel
theorem dX7_set_43 : decode cX7_set 43 = .ok (.bipush (-2), 2) := by decide +kernel
theorem dX7_set_45 : decode cX7_set 45 = .ok (.ireturn, 1) := by decide +kernel
theorem dX7_set_46 : decode cX7_set 46 = .ok (.iload_n 1, 1) := by decide +kernel
theorem dX7_set_47 : decode cX7_set 47 = .ok (.tableswitch 88 0 3 #[29, 40, 58, 73], 29) := by decide +kernel
theorem dX7_set_76 : decode cX7_set 76 = .ok (.aload_n 0, 1) := by decide +kernel
theorem dX7_set_77 : decode cX7_set 77 = .ok (.getfield 10, 3) := by decide +kernel
theorem dX7_set_80 : decode cX7_set 80 = .ok (.iload_n 3, 1) := by decide +kernel
theorem dX7_set_81 : decode cX7_set 81 = .ok (.putfield 95, 3) := by decide +kernel
theorem dX7_set_84 : decode cX7_set 84 = .ok (.goto 63, 3) := by decide +kernel
theorem dX7_set_87 : decode cX7_set 87 = .ok (.aload_n 0, 1) := by decide +kernel
theorem dX7_set_88 : decode cX7_set 88 = .ok (.getfield 10, 3) := by decide +kernel
theorem dX7_set_91 : decode cX7_set 91 = .ok (.getfield 99, 3) := by decide +kernel
theorem dX7_set_94 : decode cX7_set 94 = .ok (.iload_n 2, 1) := by decide +kernel
theorem dX7_set_95 : decode cX7_set 95 = .ok (.invokestatic 102, 3) := by decide +kernel
theorem dX7_set_98 : decode cX7_set 98 = .ok (.iload_n 3, 1) := by decide +kernel
theorem dX7_set_99 : decode cX7_set 99 = .ok (.invokestatic 106, 3) := by decide +kernel
theorem dX7_set_102 : decode cX7_set 102 = .ok (.goto 45, 3) := by decide +kernel
theorem dX7_set_105 : decode cX7_set 105 = .ok (.aload_n 0, 1) := by decide +kernel
theorem dX7_set_106 : decode cX7_set 106 = .ok (.getfield 10, 3) := by decide +kernel
theorem dX7_set_109 : decode cX7_set 109 = .ok (.getfield 110, 3) := by decide +kernel
theorem dX7_set_112 : decode cX7_set 112 = .ok (.iload_n 2, 1) := by decide +kernel
theorem dX7_set_113 : decode cX7_set 113 = .ok (.iload_n 3, 1) := by decide +kernel
theorem dX7_set_114 : decode cX7_set 114 = .ok (.invokestatic 106, 3) := by decide +kernel
theorem dX7_set_117 : decode cX7_set 117 = .ok (.goto 30, 3) := by decide +kernel
theorem dX7_set_120 : decode cX7_set 120 = .ok (.aload_n 0, 1) := by decide +kernel
theorem dX7_set_121 : decode cX7_set 121 = .ok (.getfield 10, 3) := by decide +kernel
theorem dX7_set_124 : decode cX7_set 124 = .ok (.getfield 113, 3) := by decide +kernel
theorem dX7_set_127 : decode cX7_set 127 = .ok (.iload_n 2, 1) := by decide +kernel
theorem dX7_set_128 : decode cX7_set 128 = .ok (.iload_n 3, 1) := by decide +kernel
theorem dX7_set_129 : decode cX7_set 129 = .ok (.invokestatic 106, 3) := by decide +kernel
theorem dX7_set_132 : decode cX7_set 132 = .ok (.goto 15, 3) := by decide +kernel
theorem dX7_set_135 : decode cX7_set 135 = .ok (.aload_n 0, 1) := by decide +kernel
theorem dX7_set_136 : decode cX7_set 136 = .ok (.getfield 10, 3) := by decide +kernel
theorem dX7_set_139 : decode cX7_set 139 = .ok (.getfield 116, 3) := by decide +kernel
theorem dX7_set_142 : decode cX7_set 142 = .ok (.iload_n 2, 1) := by decide +kernel
theorem dX7_set_143 : decode cX7_set 143 = .ok (.iload_n 3, 1) := by decide +kernel
theorem dX7_set_144 : decode cX7_set 144 = .ok (.invokestatic 106, 3) := by decide +kernel
theorem dX7_set_147 : decode cX7_set 147 = .ok (.iload 4, 2) := by decide +kernel
theorem dX7_set_149 : decode cX7_set 149 = .ok (.ireturn, 1) := by decide +kernel
set_option maxRecDepth 20000 in
theorem ggX7_bargain_X2_add : GoodIn wsX7_bargain wsX2_add := goodIn_r _ [7, 8, 9, 10, 11, 12, 13, 14, 15, 26, 27, 28, 29, 30, 31, 32, 33] rfl (by decide +kernel)
set_option maxRecDepth 20000 in
theorem gX7_bargain_X2_add : GoodIn wsX7_bargain (wsV RX7 119 RX2 yX2_add wsX2_add) := goodIn_app (goodIn_of _ (by decide +kernel)) ggX7_bargain_X2_add
theorem dX7_bargain_0 : decode cX7_bargain 0 = .ok (.iload_n 1, 1) := by decide +kernel
theorem dX7_bargain_1 : decode cX7_bargain 1 = .ok (.ifCond .lt 28, 3) := by decide +kernel
theorem dX7_bargain_4 : decode cX7_bargain 4 = .ok (.iload_n 1, 1) := by decide +kernel
theorem dX7_bargain_5 : decode cX7_bargain 5 = .ok (.bipush 6, 2) := by decide +kernel
theorem dX7_bargain_7 : decode cX7_bargain 7 = .ok (.if_icmp .ge 22, 3) := by decide +kernel
theorem dX7_bargain_10 : decode cX7_bargain 10 = .ok (.iload_n 2, 1) := by decide +kernel
theorem dX7_bargain_11 : decode cX7_bargain 11 = .ok (.ifCond .lt 18, 3) := by decide +kernel
theorem dX7_bargain_14 : decode cX7_bargain 14 = .ok (.iload_n 2, 1) := by decide +kernel
theorem dX7_bargain_15 : decode cX7_bargain 15 = .ok (.bipush 10, 2) := by decide +kernel
theorem dX7_bargain_17 : decode cX7_bargain 17 = .ok (.if_icmp .ge 12, 3) := by decide +kernel
theorem dX7_bargain_20 : decode cX7_bargain 20 = .ok (.iload_n 3, 1) := by decide +kernel
theorem dX7_bargain_21 : decode cX7_bargain 21 = .ok (.ifCond .lt 8, 3) := by decide +kernel
theorem dX7_bargain_24 : decode cX7_bargain 24 = .ok (.iload_n 3, 1) := by decide +kernel
theorem dX7_bargain_25 : decode cX7_bargain 25 = .ok (.iconst 2, 1) := by decide +kernel
theorem dX7_bargain_26 : decode cX7_bargain 26 = .ok (.if_icmp .lt 6, 3) := by decide +kernel
theorem dX7_bargain_29 : decode cX7_bargain 29 = .ok (.bipush (-2), 2) := by decide +kernel
theorem dX7_bargain_31 : decode cX7_bargain 31 = .ok (.ireturn, 1) := by decide +kernel
theorem dX7_bargain_32 : decode cX7_bargain 32 = .ok (.aload_n 0, 1) := by decide +kernel
theorem dX7_bargain_33 : decode cX7_bargain 33 = .ok (.getfield 10, 3) := by decide +kernel
theorem dX7_bargain_36 : decode cX7_bargain 36 = .ok (.iload_n 1, 1) := by decide +kernel
theorem dX7_bargain_37 : decode cX7_bargain 37 = .ok (.iload_n 2, 1) := by decide +kernel
theorem dX7_bargain_38 : decode cX7_bargain 38 = .ok (.iload_n 3, 1) := by decide +kernel
theorem dX7_bargain_39 : decode cX7_bargain 39 = .ok (.invokevirtual 119, 3) := by decide +kernel
theorem dX7_bargain_42 : decode cX7_bargain 42 = .ok (.ifCond .eq 15, 3) := by decide +kernel
theorem dX7_bargain_45 : decode cX7_bargain 45 = .ok (.aload_n 0, 1) := by decide +kernel
theorem dX7_bargain_46 : decode cX7_bargain 46 = .ok (.getfield 10, 3) := by decide +kernel
theorem dX7_bargain_49 : decode cX7_bargain 49 = .ok (.getfield 123, 3) := by decide +kernel
theorem dX7_bargain_52 : decode cX7_bargain 52 = .ok (.iconst 1, 1) := by decide +kernel
theorem dX7_bargain_53 : decode cX7_bargain 53 = .ok (.isub, 1) := by decide +kernel
theorem dX7_bargain_54 : decode cX7_bargain 54 = .ok (.goto 5, 3) := by decide +kernel
theorem dX7_bargain_57 : decode cX7_bargain 57 = .ok (.bipush (-4), 2) := by decide +kernel
theorem dX7_bargain_59 : decode cX7_bargain 59 = .ok (.ireturn, 1) := by decide +kernel
set_option maxRecDepth 20000 in
theorem ggX7_told_X7_rainPlace : GoodIn wsX7_told wsX7_rainPlace := goodIn_r _ [11] rfl (by decide +kernel)
set_option maxRecDepth 20000 in
theorem gX7_told_X7_rainPlace : GoodIn wsX7_told (va_wsS RX7 102 yX7_rainPlace wsX7_rainPlace) := goodIn_app (goodIn_of _ (by decide +kernel)) ggX7_told_X7_rainPlace
set_option maxRecDepth 20000 in
theorem ggX7_told_X7_at : GoodIn wsX7_told wsX7_at := goodIn_r _ [14] rfl (by decide +kernel)
set_option maxRecDepth 20000 in
theorem gX7_told_X7_at : GoodIn wsX7_told (va_wsS RX7 126 yX7_at wsX7_at) := goodIn_app (goodIn_of _ (by decide +kernel)) ggX7_told_X7_at
set_option maxRecDepth 20000 in
theorem ggX7_told_X2_has : GoodIn wsX7_told wsX2_has := goodIn_r _ [19, 20, 31, 32, 33, 34, 35, 36, 37, 38] rfl (by decide +kernel)
set_option maxRecDepth 20000 in
theorem gX7_told_X2_has : GoodIn wsX7_told (wsV RX7 130 RX2 yX2_has wsX2_has) := goodIn_app (goodIn_of _ (by decide +kernel)) ggX7_told_X2_has
theorem dX7_told_0 : decode cX7_told 0 = .ok (.iload_n 2, 1) := by decide +kernel
theorem dX7_told_1 : decode cX7_told 1 = .ok (.ifCond .ne 11, 3) := by decide +kernel
theorem dX7_told_4 : decode cX7_told 4 = .ok (.aload_n 0, 1) := by decide +kernel
theorem dX7_told_5 : decode cX7_told 5 = .ok (.getfield 10, 3) := by decide +kernel
theorem dX7_told_8 : decode cX7_told 8 = .ok (.getfield 95, 3) := by decide +kernel
theorem dX7_told_11 : decode cX7_told 11 = .ok (.ireturn, 1) := by decide +kernel
theorem dX7_told_12 : decode cX7_told 12 = .ok (.iload_n 2, 1) := by decide +kernel
theorem dX7_told_13 : decode cX7_told 13 = .ok (.iconst 1, 1) := by decide +kernel
theorem dX7_told_14 : decode cX7_told 14 = .ok (.if_icmp .ne 30, 3) := by decide +kernel
theorem dX7_told_17 : decode cX7_told 17 = .ok (.iload_n 1, 1) := by decide +kernel
theorem dX7_told_18 : decode cX7_told 18 = .ok (.invokestatic 102, 3) := by decide +kernel
theorem dX7_told_21 : decode cX7_told 21 = .ok (.istore_n 3, 1) := by decide +kernel
theorem dX7_told_22 : decode cX7_told 22 = .ok (.iload_n 3, 1) := by decide +kernel
theorem dX7_told_23 : decode cX7_told 23 = .ok (.iconst (-1), 1) := by decide +kernel
theorem dX7_told_24 : decode cX7_told 24 = .ok (.if_icmp .ne 8, 3) := by decide +kernel
theorem dX7_told_27 : decode cX7_told 27 = .ok (.bipush (-2), 2) := by decide +kernel
theorem dX7_told_29 : decode cX7_told 29 = .ok (.goto 14, 3) := by decide +kernel
theorem dX7_told_32 : decode cX7_told 32 = .ok (.aload_n 0, 1) := by decide +kernel
theorem dX7_told_33 : decode cX7_told 33 = .ok (.getfield 10, 3) := by decide +kernel
theorem dX7_told_36 : decode cX7_told 36 = .ok (.getfield 99, 3) := by decide +kernel
theorem dX7_told_39 : decode cX7_told 39 = .ok (.iload_n 3, 1) := by decide +kernel
theorem dX7_told_40 : decode cX7_told 40 = .ok (.invokestatic 126, 3) := by decide +kernel
theorem dX7_told_43 : decode cX7_told 43 = .ok (.ireturn, 1) := by decide +kernel
theorem dX7_told_44 : decode cX7_told 44 = .ok (.aload_n 0, 1) := by decide +kernel
theorem dX7_told_45 : decode cX7_told 45 = .ok (.getfield 10, 3) := by decide +kernel
theorem dX7_told_48 : decode cX7_told 48 = .ok (.iload_n 1, 1) := by decide +kernel
theorem dX7_told_49 : decode cX7_told 49 = .ok (.invokevirtual 130, 3) := by decide +kernel
theorem dX7_told_52 : decode cX7_told 52 = .ok (.ifCond .ne 6, 3) := by decide +kernel
theorem dX7_told_55 : decode cX7_told 55 = .ok (.bipush (-2), 2) := by decide +kernel
theorem dX7_told_57 : decode cX7_told 57 = .ok (.ireturn, 1) := by decide +kernel
theorem dX7_told_58 : decode cX7_told 58 = .ok (.iload_n 2, 1) := by decide +kernel
theorem dX7_told_59 : decode cX7_told 59 = .ok (.tableswitch 77 2 5 #[29, 41, 53, 65], 29) := by decide +kernel
theorem dX7_told_88 : decode cX7_told 88 = .ok (.aload_n 0, 1) := by decide +kernel
theorem dX7_told_89 : decode cX7_told 89 = .ok (.getfield 10, 3) := by decide +kernel
theorem dX7_told_92 : decode cX7_told 92 = .ok (.getfield 110, 3) := by decide +kernel
theorem dX7_told_95 : decode cX7_told 95 = .ok (.iload_n 1, 1) := by decide +kernel
theorem dX7_told_96 : decode cX7_told 96 = .ok (.invokestatic 126, 3) := by decide +kernel
theorem dX7_told_99 : decode cX7_told 99 = .ok (.ireturn, 1) := by decide +kernel
theorem dX7_told_100 : decode cX7_told 100 = .ok (.aload_n 0, 1) := by decide +kernel
theorem dX7_told_101 : decode cX7_told 101 = .ok (.getfield 10, 3) := by decide +kernel
theorem dX7_told_104 : decode cX7_told 104 = .ok (.getfield 113, 3) := by decide +kernel
theorem dX7_told_107 : decode cX7_told 107 = .ok (.iload_n 1, 1) := by decide +kernel
theorem dX7_told_108 : decode cX7_told 108 = .ok (.invokestatic 126, 3) := by decide +kernel
theorem dX7_told_111 : decode cX7_told 111 = .ok (.ireturn, 1) := by decide +kernel
theorem dX7_told_112 : decode cX7_told 112 = .ok (.aload_n 0, 1) := by decide +kernel
theorem dX7_told_113 : decode cX7_told 113 = .ok (.getfield 10, 3) := by decide +kernel
theorem dX7_told_116 : decode cX7_told 116 = .ok (.getfield 116, 3) := by decide +kernel
theorem dX7_told_119 : decode cX7_told 119 = .ok (.iload_n 1, 1) := by decide +kernel
theorem dX7_told_120 : decode cX7_told 120 = .ok (.invokestatic 126, 3) := by decide +kernel
theorem dX7_told_123 : decode cX7_told 123 = .ok (.ireturn, 1) := by decide +kernel
theorem dX7_told_124 : decode cX7_told 124 = .ok (.aload_n 0, 1) := by decide +kernel
theorem dX7_told_125 : decode cX7_told 125 = .ok (.getfield 10, 3) := by decide +kernel
theorem dX7_told_128 : decode cX7_told 128 = .ok (.getfield 133, 3) := by decide +kernel
theorem dX7_told_131 : decode cX7_told 131 = .ok (.iload_n 1, 1) := by decide +kernel
theorem dX7_told_132 : decode cX7_told 132 = .ok (.invokestatic 126, 3) := by decide +kernel
theorem dX7_told_135 : decode cX7_told 135 = .ok (.ireturn, 1) := by decide +kernel
theorem dX7_told_136 : decode cX7_told 136 = .ok (.bipush (-2), 2) := by decide +kernel
theorem dX7_told_138 : decode cX7_told 138 = .ok (.ireturn, 1) := by decide +kernel
set_option maxRecDepth 20000 in
theorem ggX7_asks_X2_has : GoodIn wsX7_asks wsX2_has := goodIn_r _ [8, 9, 103, 104, 105, 106, 107, 108, 109, 110] rfl (by decide +kernel)
set_option maxRecDepth 20000 in
theorem gX7_asks_X2_has : GoodIn wsX7_asks (wsV RX7 130 RX2 yX2_has wsX2_has) := goodIn_app (goodIn_of _ (by decide +kernel)) ggX7_asks_X2_has
set_option maxRecDepth 20000 in
theorem ggX7_asks_X2_shakenCount : GoodIn wsX7_asks wsX2_shakenCount := goodIn_r _ [13, 9, 14, 15, 16, 17, 103, 104, 105, 106, 107, 108, 109, 110] rfl (by decide +kernel)
set_option maxRecDepth 20000 in
theorem gX7_asks_X2_shakenCount : GoodIn wsX7_asks (wsV RX7 136 RX2 yX2_shakenCount wsX2_shakenCount) := goodIn_app (goodIn_of _ (by decide +kernel)) ggX7_asks_X2_shakenCount
set_option maxRecDepth 20000 in
theorem ggX7_asks_X0_regard : GoodIn wsX7_asks wsX0_regard := goodIn_r _ [22, 23, 24, 25, 26, 27, 28, 29, 30, 31, 15, 16, 17, 32, 33, 103, 104, 105, 106, 107, 108, 109, 110, 111, 112, 113, 114] rfl (by decide +kernel)
set_option maxRecDepth 20000 in
theorem gX7_asks_X0_regard : GoodIn wsX7_asks (wsV RX7 139 RX0 yX0_regard wsX0_regard) := goodIn_app (goodIn_of _ (by decide +kernel)) ggX7_asks_X0_regard
set_option maxRecDepth 20000 in
theorem ggX7_asks_X0_see : GoodIn wsX7_asks wsX0_see := goodIn_r _ [37, 29, 38, 39, 40, 21, 41, 28, 32, 16, 33, 111, 112, 113, 114] rfl (by decide +kernel)
set_option maxRecDepth 20000 in
theorem gX7_asks_X0_see : GoodIn wsX7_asks (wsV RX7 143 RX0 yX0_see wsX0_see) := goodIn_app (goodIn_of _ (by decide +kernel)) ggX7_asks_X0_see
set_option maxRecDepth 20000 in
theorem ggX7_asks_X0_needs : GoodIn wsX7_asks wsX0_needs := goodIn_r _ [45, 26, 29, 24, 46, 47, 48, 49, 50, 51, 52, 53, 15, 16, 17, 32, 33, 54, 55, 56, 57, 58, 59, 60, 61, 62, 111, 112, 113, 114, 115, 116, 117, 118] rfl (by decide +kernel)
set_option maxRecDepth 20000 in
theorem gX7_asks_X0_needs : GoodIn wsX7_asks (wsV RX7 147 RX0 yX0_needs wsX0_needs) := goodIn_app (goodIn_of _ (by decide +kernel)) ggX7_asks_X0_needs
set_option maxRecDepth 20000 in
theorem ggX7_asks_X0_takes : GoodIn wsX7_asks wsX0_takes := goodIn_r _ [66, 26, 29, 24, 46, 47, 48, 49, 50, 51, 52, 53, 15, 16, 17, 32, 33, 54, 55, 56, 57, 58, 67, 68, 61, 69, 111, 112, 113, 114, 115, 116, 117, 118] rfl (by decide +kernel)
set_option maxRecDepth 20000 in
theorem gX7_asks_X0_takes : GoodIn wsX7_asks (wsV RX7 150 RX0 yX0_takes wsX0_takes) := goodIn_app (goodIn_of _ (by decide +kernel)) ggX7_asks_X0_takes
set_option maxRecDepth 20000 in
theorem ggX7_asks_X0_lastHour : GoodIn wsX7_asks wsX0_lastHour := goodIn_r _ [73, 38, 39, 40, 21, 41, 28, 74, 35, 36, 37, 29, 32, 16, 33, 75, 43, 44, 45, 26, 24, 46, 47, 48, 49, 50, 51, 52, 53, 15, 17, 54, 55, 56, 57, 58, 59, 60, 61, 62, 76, 64, 65, 66, 67, 68, 69, 77, 78, 79, 80, 111, 112, 113, 114, 115, 116, 117, 118] rfl (by decide +kernel)
set_option maxRecDepth 20000 in
theorem gX7_asks_X0_lastHour : GoodIn wsX7_asks (wsV RX7 153 RX0 yX0_lastHour wsX0_lastHour) := goodIn_app (goodIn_of _ (by decide +kernel)) ggX7_asks_X0_lastHour
set_option maxRecDepth 20000 in
theorem ggX7_asks_X0_worth : GoodIn wsX7_asks wsX0_worth := goodIn_r _ [84, 26, 29, 24, 46, 47, 48, 49, 50, 51, 52, 53, 15, 16, 17, 32, 33, 54, 55, 56, 57, 58, 85, 86, 61, 87, 111, 112, 113, 114, 115, 116, 117, 118] rfl (by decide +kernel)
set_option maxRecDepth 20000 in
theorem gX7_asks_X0_worth : GoodIn wsX7_asks (wsV RX7 156 RX0 yX0_worth wsX0_worth) := goodIn_app (goodIn_of _ (by decide +kernel)) ggX7_asks_X0_worth
set_option maxRecDepth 20000 in
theorem ggX7_asks_X0_shakenHour : GoodIn wsX7_asks wsX0_shakenHour := goodIn_r _ [91, 92, 71, 72, 21, 73, 38, 39, 40, 41, 28, 74, 35, 36, 37, 29, 32, 16, 33, 75, 43, 44, 45, 26, 24, 46, 47, 48, 49, 50, 51, 52, 53, 15, 17, 54, 55, 56, 57, 58, 59, 60, 61, 62, 76, 64, 65, 66, 67, 68, 69, 77, 78, 79, 80, 111, 112, 113, 114, 115, 116, 117, 118] rfl (by decide +kernel)
set_option maxRecDepth 20000 in
theorem gX7_asks_X0_shakenHour : GoodIn wsX7_asks (wsV RX7 159 RX0 yX0_shakenHour wsX0_shakenHour) := goodIn_app (goodIn_of _ (by decide +kernel)) ggX7_asks_X0_shakenHour
theorem dX7_asks_0 : decode cX7_asks 0 = .ok (.aload_n 0, 1) := by decide +kernel
theorem dX7_asks_1 : decode cX7_asks 1 = .ok (.getfield 10, 3) := by decide +kernel
theorem dX7_asks_4 : decode cX7_asks 4 = .ok (.iload_n 1, 1) := by decide +kernel
theorem dX7_asks_5 : decode cX7_asks 5 = .ok (.invokevirtual 130, 3) := by decide +kernel
theorem dX7_asks_8 : decode cX7_asks 8 = .ok (.ifCond .eq 22, 3) := by decide +kernel
theorem dX7_asks_11 : decode cX7_asks 11 = .ok (.iload_n 2, 1) := by decide +kernel
theorem dX7_asks_12 : decode cX7_asks 12 = .ok (.ifCond .lt 18, 3) := by decide +kernel
theorem dX7_asks_15 : decode cX7_asks 15 = .ok (.iload_n 2, 1) := by decide +kernel
theorem dX7_asks_16 : decode cX7_asks 16 = .ok (.bipush 24, 2) := by decide +kernel
theorem dX7_asks_18 : decode cX7_asks 18 = .ok (.if_icmp .ge 12, 3) := by decide +kernel
theorem dX7_asks_21 : decode cX7_asks 21 = .ok (.iload_n 3, 1) := by decide +kernel
theorem dX7_asks_22 : decode cX7_asks 22 = .ok (.ifCond .lt 8, 3) := by decide +kernel
theorem dX7_asks_25 : decode cX7_asks 25 = .ok (.iload_n 3, 1) := by decide +kernel
theorem dX7_asks_26 : decode cX7_asks 26 = .ok (.iconst 4, 1) := by decide +kernel
theorem dX7_asks_27 : decode cX7_asks 27 = .ok (.if_icmp .le 6, 3) := by decide +kernel
theorem dX7_asks_30 : decode cX7_asks 30 = .ok (.bipush (-2), 2) := by decide +kernel
theorem dX7_asks_32 : decode cX7_asks 32 = .ok (.ireturn, 1) := by decide +kernel
theorem dX7_asks_33 : decode cX7_asks 33 = .ok (.aload_n 0, 1) := by decide +kernel
theorem dX7_asks_34 : decode cX7_asks 34 = .ok (.getfield 41, 3) := by decide +kernel
theorem dX7_asks_37 : decode cX7_asks 37 = .ok (.aload_n 0, 1) := by decide +kernel
theorem dX7_asks_38 : decode cX7_asks 38 = .ok (.getfield 10, 3) := by decide +kernel
theorem dX7_asks_41 : decode cX7_asks 41 = .ok (.iload_n 1, 1) := by decide +kernel
theorem dX7_asks_42 : decode cX7_asks 42 = .ok (.aload_n 0, 1) := by decide +kernel
theorem dX7_asks_43 : decode cX7_asks 43 = .ok (.getfield 10, 3) := by decide +kernel
theorem dX7_asks_46 : decode cX7_asks 46 = .ok (.invokevirtual 136, 3) := by decide +kernel
theorem dX7_asks_49 : decode cX7_asks 49 = .ok (.invokevirtual 139, 3) := by decide +kernel
theorem dX7_asks_52 : decode cX7_asks 52 = .ok (.aload_n 0, 1) := by decide +kernel
theorem dX7_asks_53 : decode cX7_asks 53 = .ok (.getfield 41, 3) := by decide +kernel
theorem dX7_asks_56 : decode cX7_asks 56 = .ok (.aload_n 0, 1) := by decide +kernel
theorem dX7_asks_57 : decode cX7_asks 57 = .ok (.getfield 10, 3) := by decide +kernel
theorem dX7_asks_60 : decode cX7_asks 60 = .ok (.getfield 99, 3) := by decide +kernel
theorem dX7_asks_63 : decode cX7_asks 63 = .ok (.iload_n 2, 1) := by decide +kernel
theorem dX7_asks_64 : decode cX7_asks 64 = .ok (.invokevirtual 143, 3) := by decide +kernel
theorem dX7_asks_67 : decode cX7_asks 67 = .ok (.iload_n 3, 1) := by decide +kernel
theorem dX7_asks_68 : decode cX7_asks 68 = .ok (.tableswitch 81 0 3 #[32, 40, 48, 73], 32) := by decide +kernel
theorem dX7_asks_100 : decode cX7_asks 100 = .ok (.aload_n 0, 1) := by decide +kernel
theorem dX7_asks_101 : decode cX7_asks 101 = .ok (.getfield 41, 3) := by decide +kernel
theorem dX7_asks_104 : decode cX7_asks 104 = .ok (.invokevirtual 147, 3) := by decide +kernel
theorem dX7_asks_107 : decode cX7_asks 107 = .ok (.ireturn, 1) := by decide +kernel
theorem dX7_asks_108 : decode cX7_asks 108 = .ok (.aload_n 0, 1) := by decide +kernel
theorem dX7_asks_109 : decode cX7_asks 109 = .ok (.getfield 41, 3) := by decide +kernel
theorem dX7_asks_112 : decode cX7_asks 112 = .ok (.invokevirtual 150, 3) := by decide +kernel
theorem dX7_asks_115 : decode cX7_asks 115 = .ok (.ireturn, 1) := by decide +kernel
theorem dX7_asks_116 : decode cX7_asks 116 = .ok (.aload_n 0, 1) := by decide +kernel
theorem dX7_asks_117 : decode cX7_asks 117 = .ok (.getfield 41, 3) := by decide +kernel
theorem dX7_asks_120 : decode cX7_asks 120 = .ok (.aload_n 0, 1) := by decide +kernel
theorem dX7_asks_121 : decode cX7_asks 121 = .ok (.getfield 10, 3) := by decide +kernel
theorem dX7_asks_124 : decode cX7_asks 124 = .ok (.getfield 99, 3) := by decide +kernel
theorem dX7_asks_127 : decode cX7_asks 127 = .ok (.iload_n 2, 1) := by decide +kernel
theorem dX7_asks_128 : decode cX7_asks 128 = .ok (.invokevirtual 153, 3) := by decide +kernel
theorem dX7_asks_131 : decode cX7_asks 131 = .ok (.iconst (-1), 1) := by decide +kernel
theorem dX7_asks_132 : decode cX7_asks 132 = .ok (.if_icmp .ne 7, 3) := by decide +kernel
theorem dX7_asks_135 : decode cX7_asks 135 = .ok (.iconst 0, 1) := by decide +kernel
theorem dX7_asks_136 : decode cX7_asks 136 = .ok (.goto 4, 3) := by decide +kernel
theorem dX7_asks_139 : decode cX7_asks 139 = .ok (.iconst 1, 1) := by decide +kernel
theorem dX7_asks_140 : decode cX7_asks 140 = .ok (.ireturn, 1) := by decide +kernel
theorem dX7_asks_141 : decode cX7_asks 141 = .ok (.aload_n 0, 1) := by decide +kernel
theorem dX7_asks_142 : decode cX7_asks 142 = .ok (.getfield 41, 3) := by decide +kernel
theorem dX7_asks_145 : decode cX7_asks 145 = .ok (.invokevirtual 156, 3) := by decide +kernel
theorem dX7_asks_148 : decode cX7_asks 148 = .ok (.ireturn, 1) := by decide +kernel
theorem dX7_asks_149 : decode cX7_asks 149 = .ok (.aload_n 0, 1) := by decide +kernel
theorem dX7_asks_150 : decode cX7_asks 150 = .ok (.getfield 41, 3) := by decide +kernel
theorem dX7_asks_153 : decode cX7_asks 153 = .ok (.aload_n 0, 1) := by decide +kernel
theorem dX7_asks_154 : decode cX7_asks 154 = .ok (.getfield 10, 3) := by decide +kernel
theorem dX7_asks_157 : decode cX7_asks 157 = .ok (.getfield 99, 3) := by decide +kernel
theorem dX7_asks_160 : decode cX7_asks 160 = .ok (.iload_n 2, 1) := by decide +kernel
theorem dX7_asks_161 : decode cX7_asks 161 = .ok (.invokevirtual 159, 3) := by decide +kernel
theorem dX7_asks_164 : decode cX7_asks 164 = .ok (.ireturn, 1) := by decide +kernel
set_option maxRecDepth 20000 in
theorem ggX7_feed_X4_append : GoodIn wsX7_feed wsX4_append := goodIn_r _ [7, 8, 9, 10, 11, 12, 23, 24, 25, 26, 27, 28, 29, 30, 31, 32, 33] rfl (by decide +kernel)
set_option maxRecDepth 20000 in
theorem gX7_feed_X4_append : GoodIn wsX7_feed (wsV RX7 69 RX4 yX4_append wsX4_append) := goodIn_app (goodIn_of _ (by decide +kernel)) ggX7_feed_X4_append
theorem dX7_feed_0 : decode cX7_feed 0 = .ok (.iload_n 1, 1) := by decide +kernel
theorem dX7_feed_1 : decode cX7_feed 1 = .ok (.ifCond .lt 10, 3) := by decide +kernel
theorem dX7_feed_4 : decode cX7_feed 4 = .ok (.iload_n 1, 1) := by decide +kernel
theorem dX7_feed_5 : decode cX7_feed 5 = .ok (.sipush 255, 3) := by decide +kernel
theorem dX7_feed_8 : decode cX7_feed 8 = .ok (.if_icmp .le 6, 3) := by decide +kernel
theorem dX7_feed_11 : decode cX7_feed 11 = .ok (.bipush (-2), 2) := by decide +kernel
theorem dX7_feed_13 : decode cX7_feed 13 = .ok (.ireturn, 1) := by decide +kernel
theorem dX7_feed_14 : decode cX7_feed 14 = .ok (.aload_n 0, 1) := by decide +kernel
theorem dX7_feed_15 : decode cX7_feed 15 = .ok (.getfield 22, 3) := by decide +kernel
theorem dX7_feed_18 : decode cX7_feed 18 = .ok (.iload_n 1, 1) := by decide +kernel
theorem dX7_feed_19 : decode cX7_feed 19 = .ok (.invokevirtual 69, 3) := by decide +kernel
theorem dX7_feed_22 : decode cX7_feed 22 = .ok (.ifCond .eq 13, 3) := by decide +kernel
theorem dX7_feed_25 : decode cX7_feed 25 = .ok (.aload_n 0, 1) := by decide +kernel
theorem dX7_feed_26 : decode cX7_feed 26 = .ok (.getfield 22, 3) := by decide +kernel
theorem dX7_feed_29 : decode cX7_feed 29 = .ok (.getfield 162, 3) := by decide +kernel
theorem dX7_feed_32 : decode cX7_feed 32 = .ok (.goto 5, 3) := by decide +kernel
theorem dX7_feed_35 : decode cX7_feed 35 = .ok (.bipush (-4), 2) := by decide +kernel
theorem dX7_feed_37 : decode cX7_feed 37 = .ok (.ireturn, 1) := by decide +kernel
set_option maxRecDepth 20000 in
theorem ggX7_text_X4_read : GoodIn wsX7_text wsX4_read := goodIn_r _ [10, 11, 12, 13, 14, 15, 16, 17, 18, 19, 20, 21, 22, 9, 23, 24, 25, 26, 27, 28, 29, 30, 31, 32, 33, 34, 35, 36, 37, 38, 39, 40, 41, 42, 43, 44, 45, 46, 47, 48, 49, 50, 51, 52, 53, 54, 55, 56, 57, 58, 59, 60, 61, 62, 63, 64, 65, 66, 67, 68, 69, 70, 71, 72, 73, 74, 75, 76, 77, 78, 79, 80, 81, 82, 83, 84, 85, 86, 87, 88, 89, 90, 91, 92, 93, 94, 95, 96, 97, 98, 99, 100, 101, 102, 103, 104, 105, 106, 107, 108, 109, 110, 111, 112, 113, 114, 115, 116, 117, 118, 119, 120, 121, 122, 123, 124, 125, 126, 127, 128, 129, 130, 131, 132, 133, 134, 135, 136, 137, 138, 139, 140, 141, 142, 143, 144, 145, 146, 147, 148, 149, 150, 151, 152, 153, 154, 155, 156, 157, 158, 159, 160, 161, 162, 163, 164, 165, 166, 167, 168, 169, 170, 171, 172, 173, 174, 175, 176, 177, 178, 179, 180, 181, 182, 183, 184, 185, 186, 187, 202, 203, 204, 205, 206, 207, 208, 209, 210, 211, 212, 213, 214, 215, 216] rfl (by decide +kernel)
set_option maxRecDepth 20000 in
theorem gX7_text_X4_read : GoodIn wsX7_text (wsV RX7 73 RX4 yX4_read wsX4_read) := goodIn_app (goodIn_of _ (by decide +kernel)) ggX7_text_X4_read
set_option maxRecDepth 20000 in
theorem ggX7_text_X7_keepText : GoodIn wsX7_text wsX7_keepText := goodIn_r _ [191, 1, 2, 192, 193, 194, 195, 196, 197, 198, 199, 200, 201] rfl (by decide +kernel)
set_option maxRecDepth 20000 in
theorem gX7_text_X7_keepText : GoodIn wsX7_text (wsV RX7 77 RX7 yX7_keepText wsX7_keepText) := goodIn_app (goodIn_of _ (by decide +kernel)) ggX7_text_X7_keepText
theorem dX7_text_0 : decode cX7_text 0 = .ok (.aload_n 0, 1) := by decide +kernel
theorem dX7_text_1 : decode cX7_text 1 = .ok (.getfield 163, 3) := by decide +kernel
theorem dX7_text_4 : decode cX7_text 4 = .ok (.aload_n 0, 1) := by decide +kernel
theorem dX7_text_5 : decode cX7_text 5 = .ok (.getfield 28, 3) := by decide +kernel
theorem dX7_text_8 : decode cX7_text 8 = .ok (.arraylength, 1) := by decide +kernel
theorem dX7_text_9 : decode cX7_text 9 = .ok (.if_icmp .lt 6, 3) := by decide +kernel
theorem dX7_text_12 : decode cX7_text 12 = .ok (.bipush (-4), 2) := by decide +kernel
theorem dX7_text_14 : decode cX7_text 14 = .ok (.ireturn, 1) := by decide +kernel
theorem dX7_text_15 : decode cX7_text 15 = .ok (.aload_n 0, 1) := by decide +kernel
theorem dX7_text_16 : decode cX7_text 16 = .ok (.getfield 22, 3) := by decide +kernel
theorem dX7_text_19 : decode cX7_text 19 = .ok (.aload_n 0, 1) := by decide +kernel
theorem dX7_text_20 : decode cX7_text 20 = .ok (.getfield 163, 3) := by decide +kernel
theorem dX7_text_23 : decode cX7_text 23 = .ok (.invokevirtual 73, 3) := by decide +kernel
theorem dX7_text_26 : decode cX7_text 26 = .ok (.astore_n 1, 1) := by decide +kernel
theorem dX7_text_27 : decode cX7_text 27 = .ok (.aload_n 1, 1) := by decide +kernel
theorem dX7_text_28 : decode cX7_text 28 = .ok (.ifnonnull 14, 3) := by decide +kernel
theorem dX7_text_31 : decode cX7_text 31 = .ok (.bipush (-100), 2) := by decide +kernel
theorem dX7_text_33 : decode cX7_text 33 = .ok (.aload_n 0, 1) := by decide +kernel
theorem dX7_text_34 : decode cX7_text 34 = .ok (.getfield 22, 3) := by decide +kernel
theorem dX7_text_37 : decode cX7_text 37 = .ok (.getfield 166, 3) := by decide +kernel
theorem dX7_text_40 : decode cX7_text 40 = .ok (.isub, 1) := by decide +kernel
theorem dX7_text_41 : decode cX7_text 41 = .ok (.ireturn, 1) := by decide +kernel
theorem dX7_text_42 : decode cX7_text 42 = .ok (.aload_n 0, 1) := by decide +kernel
theorem dX7_text_43 : decode cX7_text 43 = .ok (.aload_n 1, 1) := by decide +kernel
theorem dX7_text_44 : decode cX7_text 44 = .ok (.invokevirtual 77, 3) := by decide +kernel
theorem dX7_text_47 : decode cX7_text 47 = .ok (.aload_n 1, 1) := by decide +kernel
theorem dX7_text_48 : decode cX7_text 48 = .ok (.getfield 169, 3) := by decide +kernel
theorem dX7_text_51 : decode cX7_text 51 = .ok (.ireturn, 1) := by decide +kernel
set_option maxRecDepth 20000 in
theorem ggX7_force_X7_textAt : GoodIn wsX7_force wsX7_textAt := goodIn_r _ [7, 8, 9, 15, 16, 17, 18, 19, 20, 21, 22, 23, 24] rfl (by decide +kernel)
set_option maxRecDepth 20000 in
theorem gX7_force_X7_textAt : GoodIn wsX7_force (wsV RX7 81 RX7 yX7_textAt wsX7_textAt) := goodIn_app (goodIn_of _ (by decide +kernel)) ggX7_force_X7_textAt
set_option maxRecDepth 20000 in
theorem ggX7_force_X7_ruleNumber : GoodIn wsX7_force wsX7_ruleNumber := goodIn_r _ [13, 1, 2, 14, 15, 16, 17, 18, 19, 20, 21, 22, 23, 24, 25, 26, 27, 28, 29, 30, 31, 32, 33, 34, 35, 36] rfl (by decide +kernel)
set_option maxRecDepth 20000 in
theorem gX7_force_X7_ruleNumber : GoodIn wsX7_force (wsV RX7 172 RX7 yX7_ruleNumber wsX7_ruleNumber) := goodIn_app (goodIn_of _ (by decide +kernel)) ggX7_force_X7_ruleNumber
theorem dX7_force_0 : decode cX7_force 0 = .ok (.aload_n 0, 1) := by decide +kernel
theorem dX7_force_1 : decode cX7_force 1 = .ok (.iload_n 1, 1) := by decide +kernel
theorem dX7_force_2 : decode cX7_force 2 = .ok (.invokevirtual 81, 3) := by decide +kernel
theorem dX7_force_5 : decode cX7_force 5 = .ok (.astore_n 2, 1) := by decide +kernel
theorem dX7_force_6 : decode cX7_force 6 = .ok (.aload_n 2, 1) := by decide +kernel
theorem dX7_force_7 : decode cX7_force 7 = .ok (.ifnonnull 6, 3) := by decide +kernel
theorem dX7_force_10 : decode cX7_force 10 = .ok (.bipush (-2), 2) := by decide +kernel
theorem dX7_force_12 : decode cX7_force 12 = .ok (.ireturn, 1) := by decide +kernel
theorem dX7_force_13 : decode cX7_force 13 = .ok (.aload_n 0, 1) := by decide +kernel
theorem dX7_force_14 : decode cX7_force 14 = .ok (.invokevirtual 172, 3) := by decide +kernel
theorem dX7_force_17 : decode cX7_force 17 = .ok (.istore_n 3, 1) := by decide +kernel
theorem dX7_force_18 : decode cX7_force 18 = .ok (.aload_n 0, 1) := by decide +kernel
theorem dX7_force_19 : decode cX7_force 19 = .ok (.getfield 10, 3) := by decide +kernel
theorem dX7_force_22 : decode cX7_force 22 = .ok (.aload_n 2, 1) := by decide +kernel
theorem dX7_force_23 : decode cX7_force 23 = .ok (.putfield 84, 3) := by decide +kernel
theorem dX7_force_26 : decode cX7_force 26 = .ok (.iload_n 3, 1) := by decide +kernel
theorem dX7_force_27 : decode cX7_force 27 = .ok (.ireturn, 1) := by decide +kernel
set_option maxRecDepth 20000 in
theorem ggX7_tour_X7_rowAt : GoodIn wsX7_tour wsX7_rowAt := goodIn_r _ [14, 15, 144, 145, 146, 147, 148, 149, 150, 151, 152, 153] rfl (by decide +kernel)
set_option maxRecDepth 20000 in
theorem gX7_tour_X7_rowAt : GoodIn wsX7_tour (wsV RX7 175 RX7 yX7_rowAt wsX7_rowAt) := goodIn_app (goodIn_of _ (by decide +kernel)) ggX7_tour_X7_rowAt
set_option maxRecDepth 20000 in
theorem ggX7_tour_X7_tourRefusal : GoodIn wsX7_tour wsX7_tourRefusal := goodIn_r _ [19, 20, 5, 2, 21, 22, 23, 24, 25, 26, 27, 28, 13, 29, 30, 31, 32, 33, 34, 35, 36, 37, 38, 39, 162, 163, 164, 144, 145, 146, 147, 148, 149, 150, 151, 152, 153, 154, 155, 156, 157, 158, 159, 160, 161] rfl (by decide +kernel)
set_option maxRecDepth 20000 in
theorem gX7_tour_X7_tourRefusal : GoodIn wsX7_tour (wsV RX7 179 RX7 yX7_tourRefusal wsX7_tourRefusal) := goodIn_app (goodIn_of _ (by decide +kernel)) ggX7_tour_X7_tourRefusal
set_option maxRecDepth 20000 in
theorem ggX7_tour_X3_useRain : GoodIn wsX7_tour wsX3_useRain := goodIn_r _ [44, 45, 46, 47, 48, 49, 165, 166, 167, 168, 169, 170, 171, 172, 173, 174, 175, 176, 177, 178, 179, 180, 181] rfl (by decide +kernel)
set_option maxRecDepth 20000 in
theorem gX7_tour_X3_useRain : GoodIn wsX7_tour (wsV RX7 183 RX3 yX3_useRain wsX3_useRain) := goodIn_app (goodIn_of _ (by decide +kernel)) ggX7_tour_X3_useRain
set_option maxRecDepth 20000 in
theorem ggX7_tour_X3_run : GoodIn wsX7_tour wsX3_run := goodIn_r _ [53, 54, 55, 56, 57, 58, 45, 59, 60, 61, 33, 62, 35, 63, 28, 13, 29, 64, 65, 66, 67, 68, 69, 70, 71, 72, 73, 74, 75, 76, 77, 78, 79, 80, 81, 82, 83, 84, 85, 86, 87, 88, 89, 90, 91, 92, 93, 94, 95, 96, 97, 98, 99, 100, 101, 102, 103, 104, 105, 106, 107, 108, 109, 110, 111, 112, 113, 114, 115, 116, 117, 118, 119, 120, 121, 122, 123, 124, 125, 126, 127, 128, 129, 130, 131, 132, 133, 134, 135, 136, 137, 138, 139, 140, 141, 142, 165, 166, 167, 168, 169, 170, 171, 172, 173, 174, 175, 176, 177, 178, 179, 180, 181, 154, 155, 156, 157, 158, 159, 160, 161, 182, 183, 184, 185, 186, 187, 188, 189] rfl (by decide +kernel)
set_option maxRecDepth 20000 in
theorem gX7_tour_X3_run : GoodIn wsX7_tour (wsV RX7 191 RX3 yX3_run wsX3_run) := goodIn_app (goodIn_of _ (by decide +kernel)) ggX7_tour_X3_run
set_option maxRecDepth 20000 in
theorem ggX7_tour_J6_bitCount_0f7a4 : GoodIn wsX7_tour wsJ6_bitCount_0f7a4 := goodIn_r _ [67, 68, 69, 70] rfl (by decide +kernel)
set_option maxRecDepth 20000 in
theorem gX7_tour_J6_bitCount_0f7a4 : GoodIn wsX7_tour (va_wsS RX7 201 yJ6_bitCount_0f7a4 wsJ6_bitCount_0f7a4) := goodIn_app (goodIn_of _ (by decide +kernel)) ggX7_tour_J6_bitCount_0f7a4
theorem dX7_tour_0 : decode cX7_tour 0 = .ok (.iload_n 2, 1) := by decide +kernel
theorem dX7_tour_1 : decode cX7_tour 1 = .ok (.ifCond .lt 8, 3) := by decide +kernel
theorem dX7_tour_4 : decode cX7_tour 4 = .ok (.iload_n 2, 1) := by decide +kernel
theorem dX7_tour_5 : decode cX7_tour 5 = .ok (.iconst 3, 1) := by decide +kernel
theorem dX7_tour_6 : decode cX7_tour 6 = .ok (.if_icmp .le 6, 3) := by decide +kernel
theorem dX7_tour_9 : decode cX7_tour 9 = .ok (.bipush (-2), 2) := by decide +kernel
theorem dX7_tour_11 : decode cX7_tour 11 = .ok (.ireturn, 1) := by decide +kernel
theorem dX7_tour_12 : decode cX7_tour 12 = .ok (.aload_n 0, 1) := by decide +kernel
theorem dX7_tour_13 : decode cX7_tour 13 = .ok (.iload_n 1, 1) := by decide +kernel
theorem dX7_tour_14 : decode cX7_tour 14 = .ok (.invokevirtual 175, 3) := by decide +kernel
theorem dX7_tour_17 : decode cX7_tour 17 = .ok (.astore_n 3, 1) := by decide +kernel
theorem dX7_tour_18 : decode cX7_tour 18 = .ok (.aload_n 0, 1) := by decide +kernel
theorem dX7_tour_19 : decode cX7_tour 19 = .ok (.aload_n 3, 1) := by decide +kernel
theorem dX7_tour_20 : decode cX7_tour 20 = .ok (.invokevirtual 179, 3) := by decide +kernel
theorem dX7_tour_23 : decode cX7_tour 23 = .ok (.istore 4, 2) := by decide +kernel
theorem dX7_tour_25 : decode cX7_tour 25 = .ok (.aload_n 3, 1) := by decide +kernel
theorem dX7_tour_26 : decode cX7_tour 26 = .ok (.ifnull 8, 3) := by decide +kernel
theorem dX7_tour_29 : decode cX7_tour 29 = .ok (.iload 4, 2) := by decide +kernel
theorem dX7_tour_31 : decode cX7_tour 31 = .ok (.ifCond .eq 6, 3) := by decide +kernel
theorem dX7_tour_34 : decode cX7_tour 34 = .ok (.iload 4, 2) := by decide +kernel
theorem dX7_tour_36 : decode cX7_tour 36 = .ok (.ireturn, 1) := by decide +kernel
theorem dX7_tour_37 : decode cX7_tour 37 = .ok (.aload_n 0, 1) := by decide +kernel
theorem dX7_tour_38 : decode cX7_tour 38 = .ok (.getfield 48, 3) := by decide +kernel
theorem dX7_tour_41 : decode cX7_tour 41 = .ok (.aload_n 0, 1) := by decide +kernel
theorem dX7_tour_42 : decode cX7_tour 42 = .ok (.getfield 10, 3) := by decide +kernel
theorem dX7_tour_45 : decode cX7_tour 45 = .ok (.getfield 99, 3) := by decide +kernel
theorem dX7_tour_48 : decode cX7_tour 48 = .ok (.invokevirtual 183, 3) := by decide +kernel
theorem dX7_tour_51 : decode cX7_tour 51 = .ok (.aload_n 0, 1) := by decide +kernel
theorem dX7_tour_52 : decode cX7_tour 52 = .ok (.getfield 48, 3) := by decide +kernel
theorem dX7_tour_55 : decode cX7_tour 55 = .ok (.aload_n 0, 1) := by decide +kernel
theorem dX7_tour_56 : decode cX7_tour 56 = .ok (.getfield 10, 3) := by decide +kernel
theorem dX7_tour_59 : decode cX7_tour 59 = .ok (.aload_n 3, 1) := by decide +kernel
theorem dX7_tour_60 : decode cX7_tour 60 = .ok (.getfield 187, 3) := by decide +kernel
theorem dX7_tour_63 : decode cX7_tour 63 = .ok (.aload_n 3, 1) := by decide +kernel
theorem dX7_tour_64 : decode cX7_tour 64 = .ok (.getfield 190, 3) := by decide +kernel
theorem dX7_tour_67 : decode cX7_tour 67 = .ok (.invokevirtual 191, 3) := by decide +kernel
theorem dX7_tour_70 : decode cX7_tour 70 = .ok (.iload_n 2, 1) := by decide +kernel
theorem dX7_tour_71 : decode cX7_tour 71 = .ok (.tableswitch 52 0 2 #[25, 33, 44], 25) := by decide +kernel
theorem dX7_tour_96 : decode cX7_tour 96 = .ok (.aload_n 0, 1) := by decide +kernel
theorem dX7_tour_97 : decode cX7_tour 97 = .ok (.getfield 48, 3) := by decide +kernel
theorem dX7_tour_100 : decode cX7_tour 100 = .ok (.getfield 195, 3) := by decide +kernel
theorem dX7_tour_103 : decode cX7_tour 103 = .ok (.ireturn, 1) := by decide +kernel
theorem dX7_tour_104 : decode cX7_tour 104 = .ok (.aload_n 0, 1) := by decide +kernel
theorem dX7_tour_105 : decode cX7_tour 105 = .ok (.getfield 48, 3) := by decide +kernel
theorem dX7_tour_108 : decode cX7_tour 108 = .ok (.getfield 198, 3) := by decide +kernel
theorem dX7_tour_111 : decode cX7_tour 111 = .ok (.invokestatic 201, 3) := by decide +kernel
theorem dX7_tour_114 : decode cX7_tour 114 = .ok (.ireturn, 1) := by decide +kernel
theorem dX7_tour_115 : decode cX7_tour 115 = .ok (.aload_n 0, 1) := by decide +kernel
theorem dX7_tour_116 : decode cX7_tour 116 = .ok (.getfield 48, 3) := by decide +kernel
theorem dX7_tour_119 : decode cX7_tour 119 = .ok (.getfield 206, 3) := by decide +kernel
theorem dX7_tour_122 : decode cX7_tour 122 = .ok (.ireturn, 1) := by decide +kernel
theorem dX7_tour_123 : decode cX7_tour 123 = .ok (.aload_n 0, 1) := by decide +kernel
theorem dX7_tour_124 : decode cX7_tour 124 = .ok (.getfield 48, 3) := by decide +kernel
theorem dX7_tour_127 : decode cX7_tour 127 = .ok (.getfield 209, 3) := by decide +kernel
theorem dX7_tour_130 : decode cX7_tour 130 = .ok (.ireturn, 1) := by decide +kernel
set_option maxRecDepth 20000 in
theorem ggX7_deal_X7_rowAt : GoodIn wsX7_deal wsX7_rowAt := goodIn_r _ [13, 14, 141, 142, 143, 144, 145, 146, 147, 148, 149, 150] rfl (by decide +kernel)
set_option maxRecDepth 20000 in
theorem gX7_deal_X7_rowAt : GoodIn wsX7_deal (wsV RX7 175 RX7 yX7_rowAt wsX7_rowAt) := goodIn_app (goodIn_of _ (by decide +kernel)) ggX7_deal_X7_rowAt
set_option maxRecDepth 20000 in
theorem ggX7_deal_X7_tourRefusal : GoodIn wsX7_deal wsX7_tourRefusal := goodIn_r _ [18, 19, 5, 2, 6, 20, 21, 22, 23, 24, 25, 26, 12, 27, 28, 29, 30, 31, 32, 33, 34, 35, 36, 37, 159, 160, 161, 141, 142, 143, 144, 145, 146, 147, 148, 149, 150, 151, 152, 153, 154, 155, 156, 157, 158] rfl (by decide +kernel)
set_option maxRecDepth 20000 in
theorem gX7_deal_X7_tourRefusal : GoodIn wsX7_deal (wsV RX7 179 RX7 yX7_tourRefusal wsX7_tourRefusal) := goodIn_app (goodIn_of _ (by decide +kernel)) ggX7_deal_X7_tourRefusal
set_option maxRecDepth 20000 in
theorem ggX7_deal_X3_useRain : GoodIn wsX7_deal wsX3_useRain := goodIn_r _ [42, 43, 44, 45, 46, 47, 162, 163, 164, 165, 166, 167, 168, 169, 170, 171, 172, 173, 174, 175, 176, 177, 178] rfl (by decide +kernel)
set_option maxRecDepth 20000 in
theorem gX7_deal_X3_useRain : GoodIn wsX7_deal (wsV RX7 183 RX3 yX3_useRain wsX3_useRain) := goodIn_app (goodIn_of _ (by decide +kernel)) ggX7_deal_X3_useRain
set_option maxRecDepth 20000 in
theorem ggX7_deal_X3_run : GoodIn wsX7_deal wsX3_run := goodIn_r _ [51, 52, 53, 54, 55, 56, 43, 57, 58, 59, 31, 60, 33, 61, 26, 12, 27, 62, 63, 64, 65, 66, 67, 68, 69, 70, 71, 72, 73, 74, 75, 76, 77, 78, 79, 80, 81, 82, 83, 84, 85, 86, 87, 88, 89, 90, 91, 92, 93, 94, 95, 96, 97, 98, 99, 100, 101, 102, 103, 104, 105, 106, 107, 108, 109, 110, 111, 112, 113, 114, 115, 116, 117, 118, 119, 120, 121, 122, 123, 124, 125, 126, 127, 128, 129, 130, 131, 132, 133, 134, 135, 136, 137, 138, 139, 140, 162, 163, 164, 165, 166, 167, 168, 169, 170, 171, 172, 173, 174, 175, 176, 177, 178, 151, 152, 153, 154, 155, 156, 157, 158, 179, 180, 181, 182, 183, 184, 185, 186] rfl (by decide +kernel)
set_option maxRecDepth 20000 in
theorem gX7_deal_X3_run : GoodIn wsX7_deal (wsV RX7 191 RX3 yX3_run wsX3_run) := goodIn_app (goodIn_of _ (by decide +kernel)) ggX7_deal_X3_run
set_option maxRecDepth 20000 in
theorem ggX7_deal_X7_hasBit : GoodIn wsX7_deal wsX7_hasBit := goodIn_r _ [37] rfl (by decide +kernel)
set_option maxRecDepth 20000 in
theorem gX7_deal_X7_hasBit : GoodIn wsX7_deal (va_wsS RX7 212 yX7_hasBit wsX7_hasBit) := goodIn_app (goodIn_of _ (by decide +kernel)) ggX7_deal_X7_hasBit
theorem dX7_deal_0 : decode cX7_deal 0 = .ok (.aload_n 0, 1) := by decide +kernel
theorem dX7_deal_1 : decode cX7_deal 1 = .ok (.iload_n 1, 1) := by decide +kernel
theorem dX7_deal_2 : decode cX7_deal 2 = .ok (.invokevirtual 175, 3) := by decide +kernel
theorem dX7_deal_5 : decode cX7_deal 5 = .ok (.astore_n 2, 1) := by decide +kernel
theorem dX7_deal_6 : decode cX7_deal 6 = .ok (.aload_n 0, 1) := by decide +kernel
theorem dX7_deal_7 : decode cX7_deal 7 = .ok (.aload_n 2, 1) := by decide +kernel
theorem dX7_deal_8 : decode cX7_deal 8 = .ok (.invokevirtual 179, 3) := by decide +kernel
theorem dX7_deal_11 : decode cX7_deal 11 = .ok (.istore_n 3, 1) := by decide +kernel
theorem dX7_deal_12 : decode cX7_deal 12 = .ok (.aload_n 2, 1) := by decide +kernel
theorem dX7_deal_13 : decode cX7_deal 13 = .ok (.ifnull 7, 3) := by decide +kernel
theorem dX7_deal_16 : decode cX7_deal 16 = .ok (.iload_n 3, 1) := by decide +kernel
theorem dX7_deal_17 : decode cX7_deal 17 = .ok (.ifCond .eq 5, 3) := by decide +kernel
theorem dX7_deal_20 : decode cX7_deal 20 = .ok (.iload_n 3, 1) := by decide +kernel
theorem dX7_deal_21 : decode cX7_deal 21 = .ok (.ireturn, 1) := by decide +kernel
theorem dX7_deal_22 : decode cX7_deal 22 = .ok (.aload_n 0, 1) := by decide +kernel
theorem dX7_deal_23 : decode cX7_deal 23 = .ok (.getfield 48, 3) := by decide +kernel
theorem dX7_deal_26 : decode cX7_deal 26 = .ok (.aload_n 0, 1) := by decide +kernel
theorem dX7_deal_27 : decode cX7_deal 27 = .ok (.getfield 10, 3) := by decide +kernel
theorem dX7_deal_30 : decode cX7_deal 30 = .ok (.getfield 99, 3) := by decide +kernel
theorem dX7_deal_33 : decode cX7_deal 33 = .ok (.invokevirtual 183, 3) := by decide +kernel
theorem dX7_deal_36 : decode cX7_deal 36 = .ok (.aload_n 0, 1) := by decide +kernel
theorem dX7_deal_37 : decode cX7_deal 37 = .ok (.getfield 48, 3) := by decide +kernel
theorem dX7_deal_40 : decode cX7_deal 40 = .ok (.aload_n 0, 1) := by decide +kernel
theorem dX7_deal_41 : decode cX7_deal 41 = .ok (.getfield 10, 3) := by decide +kernel
theorem dX7_deal_44 : decode cX7_deal 44 = .ok (.aload_n 2, 1) := by decide +kernel
theorem dX7_deal_45 : decode cX7_deal 45 = .ok (.getfield 187, 3) := by decide +kernel
theorem dX7_deal_48 : decode cX7_deal 48 = .ok (.aload_n 2, 1) := by decide +kernel
theorem dX7_deal_49 : decode cX7_deal 49 = .ok (.getfield 190, 3) := by decide +kernel
theorem dX7_deal_52 : decode cX7_deal 52 = .ok (.invokevirtual 191, 3) := by decide +kernel
theorem dX7_deal_55 : decode cX7_deal 55 = .ok (.iconst 0, 1) := by decide +kernel
theorem dX7_deal_56 : decode cX7_deal 56 = .ok (.istore 4, 2) := by decide +kernel
theorem dX7_deal_58 : decode cX7_deal 58 = .ok (.iload 4, 2) := by decide +kernel
theorem dX7_deal_60 : decode cX7_deal 60 = .ok (.aload_n 0, 1) := by decide +kernel
theorem dX7_deal_61 : decode cX7_deal 61 = .ok (.getfield 10, 3) := by decide +kernel
theorem dX7_deal_64 : decode cX7_deal 64 = .ok (.getfield 116, 3) := by decide +kernel
theorem dX7_deal_67 : decode cX7_deal 67 = .ok (.arraylength, 1) := by decide +kernel
theorem dX7_deal_68 : decode cX7_deal 68 = .ok (.if_icmp .ge 35, 3) := by decide +kernel
theorem dX7_deal_71 : decode cX7_deal 71 = .ok (.aload_n 0, 1) := by decide +kernel
theorem dX7_deal_72 : decode cX7_deal 72 = .ok (.getfield 48, 3) := by decide +kernel
theorem dX7_deal_75 : decode cX7_deal 75 = .ok (.getfield 198, 3) := by decide +kernel
theorem dX7_deal_78 : decode cX7_deal 78 = .ok (.iload 4, 2) := by decide +kernel
theorem dX7_deal_80 : decode cX7_deal 80 = .ok (.invokestatic 212, 3) := by decide +kernel
theorem dX7_deal_83 : decode cX7_deal 83 = .ok (.ifCond .eq 14, 3) := by decide +kernel
theorem dX7_deal_86 : decode cX7_deal 86 = .ok (.aload_n 0, 1) := by decide +kernel
theorem dX7_deal_87 : decode cX7_deal 87 = .ok (.getfield 10, 3) := by decide +kernel
theorem dX7_deal_90 : decode cX7_deal 90 = .ok (.getfield 116, 3) := by decide +kernel
theorem dX7_deal_93 : decode cX7_deal 93 = .ok (.iload 4, 2) := by decide +kernel
theorem dX7_deal_95 : decode cX7_deal 95 = .ok (.iconst 1, 1) := by decide +kernel
theorem dX7_deal_96 : decode cX7_deal 96 = .ok (.iastore, 1) := by decide +kernel
theorem dX7_deal_97 : decode cX7_deal 97 = .ok (.iinc 4 1, 3) := by decide +kernel
theorem dX7_deal_100 : decode cX7_deal 100 = .ok (.goto (-42), 3) := by decide +kernel
theorem dX7_deal_103 : decode cX7_deal 103 = .ok (.aload_n 0, 1) := by decide +kernel
theorem dX7_deal_104 : decode cX7_deal 104 = .ok (.getfield 48, 3) := by decide +kernel
theorem dX7_deal_107 : decode cX7_deal 107 = .ok (.getfield 195, 3) := by decide +kernel
theorem dX7_deal_110 : decode cX7_deal 110 = .ok (.ireturn, 1) := by decide +kernel
set_option maxRecDepth 20000 in
theorem ggX7_best_X3_prepare : GoodIn wsX7_best wsX3_prepare := goodIn_r _ [9, 10, 11, 12, 13, 14, 15, 8, 16, 17, 18, 19, 20, 21, 22, 23, 24, 25, 26, 27, 28, 29, 30, 31, 32, 33, 34, 35, 36, 37, 38, 39, 40, 41, 42, 43, 44, 45, 46, 47, 48, 49, 50, 51, 52, 53, 54, 55, 56, 57, 58, 59, 60, 61, 62, 63, 64, 65, 66, 67, 68, 69, 70, 71, 72, 73, 74, 75, 76, 77, 78, 79, 80, 81, 82, 83, 84, 85, 86, 87, 88, 89, 90, 91, 92, 93, 94, 95, 96, 97, 98, 99, 100, 101, 102, 103, 104, 105, 106, 107, 108, 109, 110, 111, 112, 113, 114, 115, 116, 117, 118, 119, 120, 121, 122, 123, 124, 125, 126, 127, 128, 171, 172, 173, 174, 175, 176, 177, 178, 154, 155, 156, 157, 158, 159, 160, 161, 162, 163, 164, 165, 166, 167, 168, 169, 170, 179, 180, 181, 182, 183, 184, 185, 186] rfl (by decide +kernel)
set_option maxRecDepth 20000 in
theorem gX7_best_X3_prepare : GoodIn wsX7_best (wsV RX7 216 RX3 yX3_prepare wsX3_prepare) := goodIn_app (goodIn_of _ (by decide +kernel)) ggX7_best_X3_prepare
set_option maxRecDepth 20000 in
theorem ggX7_best_X3_seek : GoodIn wsX7_best wsX3_seek := goodIn_r _ [132, 133, 134, 135, 136, 137, 8, 138, 124, 12, 43, 51, 30, 52, 53, 54, 55, 56, 29, 31, 154, 155, 156, 157, 158, 159, 160, 161, 162, 163, 164, 165, 166, 167, 168, 169, 170] rfl (by decide +kernel)
set_option maxRecDepth 20000 in
theorem gX7_best_X3_seek : GoodIn wsX7_best (wsV RX7 223 RX3 yX3_seek wsX3_seek) := goodIn_app (goodIn_of _ (by decide +kernel)) ggX7_best_X3_seek
set_option maxRecDepth 20000 in
theorem ggX7_best_X3_leave : GoodIn wsX7_best wsX3_leave := goodIn_r _ [142, 11, 51, 30, 52, 143, 130, 131, 8, 132, 133, 134, 135, 136, 137, 138, 124, 12, 43, 53, 54, 55, 56, 29, 31, 154, 155, 156, 157, 158, 159, 160, 161, 162, 163, 164, 165, 166, 167, 168, 169, 170] rfl (by decide +kernel)
set_option maxRecDepth 20000 in
theorem gX7_best_X3_leave : GoodIn wsX7_best (wsV RX7 229 RX3 yX3_leave wsX3_leave) := goodIn_app (goodIn_of _ (by decide +kernel)) ggX7_best_X3_leave
theorem dX7_best_0 : decode cX7_best 0 = .ok (.iload_n 1, 1) := by decide +kernel
theorem dX7_best_1 : decode cX7_best 1 = .ok (.ifCond .lt 8, 3) := by decide +kernel
theorem dX7_best_4 : decode cX7_best 4 = .ok (.iload_n 1, 1) := by decide +kernel
theorem dX7_best_5 : decode cX7_best 5 = .ok (.iconst 3, 1) := by decide +kernel
theorem dX7_best_6 : decode cX7_best 6 = .ok (.if_icmp .le 6, 3) := by decide +kernel
theorem dX7_best_9 : decode cX7_best 9 = .ok (.bipush (-2), 2) := by decide +kernel
theorem dX7_best_11 : decode cX7_best 11 = .ok (.ireturn, 1) := by decide +kernel
theorem dX7_best_12 : decode cX7_best 12 = .ok (.aload_n 0, 1) := by decide +kernel
theorem dX7_best_13 : decode cX7_best 13 = .ok (.getfield 48, 3) := by decide +kernel
theorem dX7_best_16 : decode cX7_best 16 = .ok (.aload_n 0, 1) := by decide +kernel
theorem dX7_best_17 : decode cX7_best 17 = .ok (.getfield 10, 3) := by decide +kernel
theorem dX7_best_20 : decode cX7_best 20 = .ok (.invokevirtual 216, 3) := by decide +kernel
theorem dX7_best_23 : decode cX7_best 23 = .ok (.aload_n 0, 1) := by decide +kernel
theorem dX7_best_24 : decode cX7_best 24 = .ok (.getfield 48, 3) := by decide +kernel
theorem dX7_best_27 : decode cX7_best 27 = .ok (.aload_n 0, 1) := by decide +kernel
theorem dX7_best_28 : decode cX7_best 28 = .ok (.getfield 48, 3) := by decide +kernel
theorem dX7_best_31 : decode cX7_best 31 = .ok (.getfield 220, 3) := by decide +kernel
theorem dX7_best_34 : decode cX7_best 34 = .ok (.bipush 6, 2) := by decide +kernel
theorem dX7_best_36 : decode cX7_best 36 = .ok (.invokevirtual 223, 3) := by decide +kernel
theorem dX7_best_39 : decode cX7_best 39 = .ok (.istore_n 2, 1) := by decide +kernel
theorem dX7_best_40 : decode cX7_best 40 = .ok (.iload_n 1, 1) := by decide +kernel
theorem dX7_best_41 : decode cX7_best 41 = .ok (.lookupswitch 44 #[(0, 27), (2, 35)], 27) := by decide +kernel
theorem dX7_best_68 : decode cX7_best 68 = .ok (.aload_n 0, 1) := by decide +kernel
theorem dX7_best_69 : decode cX7_best 69 = .ok (.getfield 48, 3) := by decide +kernel
theorem dX7_best_72 : decode cX7_best 72 = .ok (.getfield 226, 3) := by decide +kernel
theorem dX7_best_75 : decode cX7_best 75 = .ok (.ireturn, 1) := by decide +kernel
theorem dX7_best_76 : decode cX7_best 76 = .ok (.aload_n 0, 1) := by decide +kernel
theorem dX7_best_77 : decode cX7_best 77 = .ok (.getfield 48, 3) := by decide +kernel
theorem dX7_best_80 : decode cX7_best 80 = .ok (.iload_n 2, 1) := by decide +kernel
theorem dX7_best_81 : decode cX7_best 81 = .ok (.invokevirtual 229, 3) := by decide +kernel
theorem dX7_best_84 : decode cX7_best 84 = .ok (.ireturn, 1) := by decide +kernel
theorem dX7_best_85 : decode cX7_best 85 = .ok (.iload_n 2, 1) := by decide +kernel
theorem dX7_best_86 : decode cX7_best 86 = .ok (.ireturn, 1) := by decide +kernel
set_option maxRecDepth 20000 in
theorem ggX7_few_X3_prepare : GoodIn wsX7_few wsX3_prepare := goodIn_r _ [8, 9, 10, 11, 12, 13, 14, 7, 15, 16, 17, 18, 19, 20, 21, 22, 23, 24, 25, 26, 27, 28, 29, 30, 31, 32, 33, 34, 35, 36, 37, 38, 39, 40, 41, 42, 43, 44, 45, 46, 47, 48, 49, 50, 51, 52, 53, 54, 55, 56, 57, 58, 59, 60, 61, 62, 63, 64, 65, 66, 67, 68, 69, 70, 71, 72, 73, 74, 75, 76, 77, 78, 79, 80, 81, 82, 83, 84, 85, 86, 87, 88, 89, 90, 91, 92, 93, 94, 95, 96, 97, 98, 99, 100, 101, 102, 103, 104, 105, 106, 107, 108, 109, 110, 111, 112, 113, 114, 115, 116, 117, 118, 119, 120, 121, 122, 123, 124, 125, 126, 127, 165, 166, 167, 168, 169, 170, 171, 172, 148, 149, 150, 151, 152, 153, 154, 155, 156, 157, 158, 159, 160, 161, 162, 163, 164, 173, 174, 175, 176, 177, 178, 179, 180] rfl (by decide +kernel)
set_option maxRecDepth 20000 in
theorem gX7_few_X3_prepare : GoodIn wsX7_few (wsV RX7 216 RX3 yX3_prepare wsX3_prepare) := goodIn_app (goodIn_of _ (by decide +kernel)) ggX7_few_X3_prepare
set_option maxRecDepth 20000 in
theorem ggX7_few_X3_seek : GoodIn wsX7_few wsX3_seek := goodIn_r _ [131, 132, 133, 134, 135, 136, 7, 137, 123, 11, 42, 50, 29, 51, 52, 53, 54, 55, 28, 30, 148, 149, 150, 151, 152, 153, 154, 155, 156, 157, 158, 159, 160, 161, 162, 163, 164] rfl (by decide +kernel)
set_option maxRecDepth 20000 in
theorem gX7_few_X3_seek : GoodIn wsX7_few (wsV RX7 223 RX3 yX3_seek wsX3_seek) := goodIn_app (goodIn_of _ (by decide +kernel)) ggX7_few_X3_seek
theorem dX7_few_0 : decode cX7_few 0 = .ok (.iload_n 1, 1) := by decide +kernel
theorem dX7_few_1 : decode cX7_few 1 = .ok (.ifCond .lt 9, 3) := by decide +kernel
theorem dX7_few_4 : decode cX7_few 4 = .ok (.iload_n 1, 1) := by decide +kernel
theorem dX7_few_5 : decode cX7_few 5 = .ok (.bipush 6, 2) := by decide +kernel
theorem dX7_few_7 : decode cX7_few 7 = .ok (.if_icmp .le 6, 3) := by decide +kernel
theorem dX7_few_10 : decode cX7_few 10 = .ok (.bipush (-2), 2) := by decide +kernel
theorem dX7_few_12 : decode cX7_few 12 = .ok (.ireturn, 1) := by decide +kernel
theorem dX7_few_13 : decode cX7_few 13 = .ok (.aload_n 0, 1) := by decide +kernel
theorem dX7_few_14 : decode cX7_few 14 = .ok (.getfield 48, 3) := by decide +kernel
theorem dX7_few_17 : decode cX7_few 17 = .ok (.aload_n 0, 1) := by decide +kernel
theorem dX7_few_18 : decode cX7_few 18 = .ok (.getfield 10, 3) := by decide +kernel
theorem dX7_few_21 : decode cX7_few 21 = .ok (.invokevirtual 216, 3) := by decide +kernel
theorem dX7_few_24 : decode cX7_few 24 = .ok (.aload_n 0, 1) := by decide +kernel
theorem dX7_few_25 : decode cX7_few 25 = .ok (.getfield 48, 3) := by decide +kernel
theorem dX7_few_28 : decode cX7_few 28 = .ok (.aload_n 0, 1) := by decide +kernel
theorem dX7_few_29 : decode cX7_few 29 = .ok (.getfield 48, 3) := by decide +kernel
theorem dX7_few_32 : decode cX7_few 32 = .ok (.getfield 220, 3) := by decide +kernel
theorem dX7_few_35 : decode cX7_few 35 = .ok (.iload_n 1, 1) := by decide +kernel
theorem dX7_few_36 : decode cX7_few 36 = .ok (.invokevirtual 223, 3) := by decide +kernel
theorem dX7_few_39 : decode cX7_few 39 = .ok (.ireturn, 1) := by decide +kernel
set_option maxRecDepth 20000 in
theorem ggX7_water_X2_shakenCount : GoodIn wsX7_water wsX2_shakenCount := goodIn_r _ [10, 11, 12, 13, 14, 15, 166, 167, 168, 169, 170, 171, 172, 173] rfl (by decide +kernel)
set_option maxRecDepth 20000 in
theorem gX7_water_X2_shakenCount : GoodIn wsX7_water (wsV RX7 136 RX2 yX2_shakenCount wsX2_shakenCount) := goodIn_app (goodIn_of _ (by decide +kernel)) ggX7_water_X2_shakenCount
set_option maxRecDepth 20000 in
theorem ggX7_water_X3_prepare : GoodIn wsX7_water wsX3_prepare := goodIn_r _ [20, 21, 22, 23, 24, 25, 26, 19, 27, 28, 29, 30, 31, 32, 33, 34, 35, 9, 36, 11, 12, 13, 14, 15, 37, 7, 8, 10, 38, 39, 40, 41, 42, 43, 44, 45, 46, 47, 48, 49, 50, 51, 52, 53, 54, 55, 56, 57, 58, 59, 60, 61, 62, 63, 64, 65, 66, 67, 68, 69, 70, 71, 72, 73, 74, 75, 76, 77, 78, 79, 80, 81, 82, 83, 84, 85, 86, 87, 88, 89, 90, 91, 92, 93, 94, 95, 96, 97, 98, 99, 100, 101, 102, 103, 104, 105, 106, 107, 108, 109, 110, 111, 112, 113, 114, 115, 116, 117, 118, 119, 120, 121, 122, 123, 124, 125, 126, 127, 128, 129, 130, 166, 167, 168, 169, 170, 171, 172, 173, 174, 175, 176, 177, 178, 179, 180, 181, 182, 183, 184, 185, 186, 187, 188, 189, 190, 191, 192, 193, 194, 195, 196, 197, 198] rfl (by decide +kernel)
set_option maxRecDepth 20000 in
theorem gX7_water_X3_prepare : GoodIn wsX7_water (wsV RX7 216 RX3 yX3_prepare wsX3_prepare) := goodIn_app (goodIn_of _ (by decide +kernel)) ggX7_water_X3_prepare
set_option maxRecDepth 20000 in
theorem ggX7_water_X3_waterAll : GoodIn wsX7_water wsX3_waterAll := goodIn_r _ [134, 135, 22, 136, 137, 138, 139, 19, 140, 141, 142, 143, 144, 145, 146, 126, 23, 45, 53, 14, 54, 55, 56, 57, 58, 13, 15, 147, 148, 149, 9, 150, 11, 151, 152, 153, 154, 155, 28, 73, 74, 38, 39, 40, 41, 42, 43, 44, 46, 47, 48, 49, 50, 51, 52, 59, 60, 61, 62, 63, 64, 65, 66, 67, 68, 69, 70, 71, 72, 75, 76, 77, 78, 79, 80, 81, 82, 83, 84, 85, 86, 87, 88, 89, 90, 91, 92, 93, 94, 95, 96, 97, 98, 99, 100, 101, 102, 103, 104, 105, 106, 107, 108, 109, 110, 111, 112, 113, 114, 115, 116, 117, 118, 119, 120, 121, 122, 123, 124, 125, 127, 128, 129, 130, 174, 175, 176, 177, 178, 179, 180, 181, 182, 183, 184, 185, 186, 187, 188, 189, 190, 166, 167, 168, 169, 170, 171, 172, 173, 191, 192, 193, 194, 195, 196, 197, 198] rfl (by decide +kernel)
set_option maxRecDepth 20000 in
theorem gX7_water_X3_waterAll : GoodIn wsX7_water (wsV RX7 232 RX3 yX3_waterAll wsX3_waterAll) := goodIn_app (goodIn_of _ (by decide +kernel)) ggX7_water_X3_waterAll
theorem dX7_water_0 : decode cX7_water 0 = .ok (.iload_n 1, 1) := by decide +kernel
theorem dX7_water_1 : decode cX7_water 1 = .ok (.ifCond .lt 8, 3) := by decide +kernel
theorem dX7_water_4 : decode cX7_water 4 = .ok (.iload_n 1, 1) := by decide +kernel
theorem dX7_water_5 : decode cX7_water 5 = .ok (.iconst 1, 1) := by decide +kernel
theorem dX7_water_6 : decode cX7_water 6 = .ok (.if_icmp .le 6, 3) := by decide +kernel
theorem dX7_water_9 : decode cX7_water 9 = .ok (.bipush (-2), 2) := by decide +kernel
theorem dX7_water_11 : decode cX7_water 11 = .ok (.ireturn, 1) := by decide +kernel
theorem dX7_water_12 : decode cX7_water 12 = .ok (.aload_n 0, 1) := by decide +kernel
theorem dX7_water_13 : decode cX7_water 13 = .ok (.getfield 10, 3) := by decide +kernel
theorem dX7_water_16 : decode cX7_water 16 = .ok (.getfield 123, 3) := by decide +kernel
theorem dX7_water_19 : decode cX7_water 19 = .ok (.aload_n 0, 1) := by decide +kernel
