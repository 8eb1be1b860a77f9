theorem dX0_init_0 : decode cX0_init 0 = .ok (.aload_n 0, 1) := by decide +kernel
theorem dX0_init_1 : decode cX0_init 1 = .ok (.invokespecial 3, 3) := by decide +kernel
theorem dX0_init_4 : decode cX0_init 4 = .ok (.aload_n 0, 1) := by decide +kernel
theorem dX0_init_5 : decode cX0_init 5 = .ok (.bipush 6, 2) := by decide +kernel
theorem dX0_init_7 : decode cX0_init 7 = .ok (.newarray .int, 2) := by decide +kernel
theorem dX0_init_9 : decode cX0_init 9 = .ok (.putfield 9, 3) := by decide +kernel
theorem dX0_init_12 : decode cX0_init 12 = .ok (.return_, 1) := by decide +kernel
set_option maxRecDepth 20000 in
theorem ggX0_regard_X7_at : GoodIn wsX0_regard wsX7_at := goodIn_r _ [12] rfl (by decide +kernel)
set_option maxRecDepth 20000 in
theorem gX0_regard_X7_at_n20 : GoodIn wsX0_regard (wsX7_at) := ggX0_regard_X7_at
set_option maxRecDepth 20000 in
theorem ggX0_regard_X7_put : GoodIn wsX0_regard wsX7_put := goodIn_r _ [14] rfl (by decide +kernel)
set_option maxRecDepth 20000 in
theorem gX0_regard_X7_put_n42 : GoodIn wsX0_regard (wsX7_put) := ggX0_regard_X7_put
theorem dX0_regard_0 : decode cX0_regard 0 = .ok (.aload_n 1, 1) := by decide +kernel
theorem dX0_regard_1 : decode cX0_regard 1 = .ok (.ifnonnull 4, 3) := by decide +kernel
theorem dX0_regard_4 : decode cX0_regard 4 = .ok (.return_, 1) := by decide +kernel
theorem dX0_regard_5 : decode cX0_regard 5 = .ok (.aload_n 0, 1) := by decide +kernel
theorem dX0_regard_6 : decode cX0_regard 6 = .ok (.aload_n 1, 1) := by decide +kernel
theorem dX0_regard_7 : decode cX0_regard 7 = .ok (.getfield 15, 3) := by decide +kernel
theorem dX0_regard_10 : decode cX0_regard 10 = .ok (.iload_n 2, 1) := by decide +kernel
theorem dX0_regard_11 : decode cX0_regard 11 = .ok (.invokestatic 20, 3) := by decide +kernel
theorem dX0_regard_14 : decode cX0_regard 14 = .ok (.putfield 24, 3) := by decide +kernel
theorem dX0_regard_17 : decode cX0_regard 17 = .ok (.aload_n 0, 1) := by decide +kernel
theorem dX0_regard_18 : decode cX0_regard 18 = .ok (.aload_n 1, 1) := by decide +kernel
theorem dX0_regard_19 : decode cX0_regard 19 = .ok (.getfield 28, 3) := by decide +kernel
theorem dX0_regard_22 : decode cX0_regard 22 = .ok (.putfield 32, 3) := by decide +kernel
theorem dX0_regard_25 : decode cX0_regard 25 = .ok (.aload_n 0, 1) := by decide +kernel
theorem dX0_regard_26 : decode cX0_regard 26 = .ok (.aload_n 1, 1) := by decide +kernel
theorem dX0_regard_27 : decode cX0_regard 27 = .ok (.getfield 33, 3) := by decide +kernel
theorem dX0_regard_30 : decode cX0_regard 30 = .ok (.iload_n 2, 1) := by decide +kernel
theorem dX0_regard_31 : decode cX0_regard 31 = .ok (.invokestatic 20, 3) := by decide +kernel
theorem dX0_regard_34 : decode cX0_regard 34 = .ok (.putfield 36, 3) := by decide +kernel
theorem dX0_regard_37 : decode cX0_regard 37 = .ok (.aload_n 0, 1) := by decide +kernel
theorem dX0_regard_38 : decode cX0_regard 38 = .ok (.getfield 9, 3) := by decide +kernel
theorem dX0_regard_41 : decode cX0_regard 41 = .ok (.iconst 2, 1) := by decide +kernel
theorem dX0_regard_42 : decode cX0_regard 42 = .ok (.aload_n 1, 1) := by decide +kernel
theorem dX0_regard_43 : decode cX0_regard 43 = .ok (.getfield 39, 3) := by decide +kernel
theorem dX0_regard_46 : decode cX0_regard 46 = .ok (.iload_n 2, 1) := by decide +kernel
theorem dX0_regard_47 : decode cX0_regard 47 = .ok (.invokestatic 20, 3) := by decide +kernel
theorem dX0_regard_50 : decode cX0_regard 50 = .ok (.invokestatic 42, 3) := by decide +kernel
theorem dX0_regard_53 : decode cX0_regard 53 = .ok (.aload_n 0, 1) := by decide +kernel
theorem dX0_regard_54 : decode cX0_regard 54 = .ok (.getfield 9, 3) := by decide +kernel
theorem dX0_regard_57 : decode cX0_regard 57 = .ok (.iconst 3, 1) := by decide +kernel
theorem dX0_regard_58 : decode cX0_regard 58 = .ok (.iload_n 3, 1) := by decide +kernel
theorem dX0_regard_59 : decode cX0_regard 59 = .ok (.invokestatic 42, 3) := by decide +kernel
theorem dX0_regard_62 : decode cX0_regard 62 = .ok (.aload_n 0, 1) := by decide +kernel
theorem dX0_regard_63 : decode cX0_regard 63 = .ok (.getfield 9, 3) := by decide +kernel
theorem dX0_regard_66 : decode cX0_regard 66 = .ok (.iconst 4, 1) := by decide +kernel
theorem dX0_regard_67 : decode cX0_regard 67 = .ok (.aload_n 0, 1) := by decide +kernel
theorem dX0_regard_68 : decode cX0_regard 68 = .ok (.getfield 36, 3) := by decide +kernel
theorem dX0_regard_71 : decode cX0_regard 71 = .ok (.invokestatic 42, 3) := by decide +kernel
theorem dX0_regard_74 : decode cX0_regard 74 = .ok (.aload_n 0, 1) := by decide +kernel
theorem dX0_regard_75 : decode cX0_regard 75 = .ok (.getfield 9, 3) := by decide +kernel
theorem dX0_regard_78 : decode cX0_regard 78 = .ok (.iconst 5, 1) := by decide +kernel
theorem dX0_regard_79 : decode cX0_regard 79 = .ok (.aload_n 1, 1) := by decide +kernel
theorem dX0_regard_80 : decode cX0_regard 80 = .ok (.getfield 46, 3) := by decide +kernel
theorem dX0_regard_83 : decode cX0_regard 83 = .ok (.invokestatic 42, 3) := by decide +kernel
theorem dX0_regard_86 : decode cX0_regard 86 = .ok (.return_, 1) := by decide +kernel
set_option maxRecDepth 20000 in
theorem ggX0_see_X0_rainIn : GoodIn wsX0_see wsX0_rainIn := goodIn_r _ [6, 7, 11, 12, 13, 14] rfl (by decide +kernel)
set_option maxRecDepth 20000 in
theorem gX0_see_X0_rainIn : GoodIn wsX0_see (wsV RX0 49 RX0 yX0_rainIn wsX0_rainIn) := goodIn_app (goodIn_of _ (by decide +kernel)) ggX0_see_X0_rainIn
set_option maxRecDepth 20000 in
theorem ggX0_see_X7_put : GoodIn wsX0_see wsX7_put := goodIn_r _ [10] rfl (by decide +kernel)
set_option maxRecDepth 20000 in
theorem gX0_see_X7_put_n42 : GoodIn wsX0_see (wsX7_put) := ggX0_see_X7_put
theorem dX0_see_0 : decode cX0_see 0 = .ok (.aload_n 0, 1) := by decide +kernel
theorem dX0_see_1 : decode cX0_see 1 = .ok (.getfield 9, 3) := by decide +kernel
theorem dX0_see_4 : decode cX0_see 4 = .ok (.iconst 0, 1) := by decide +kernel
theorem dX0_see_5 : decode cX0_see 5 = .ok (.aload_n 0, 1) := by decide +kernel
theorem dX0_see_6 : decode cX0_see 6 = .ok (.aload_n 1, 1) := by decide +kernel
theorem dX0_see_7 : decode cX0_see 7 = .ok (.iload_n 2, 1) := by decide +kernel
theorem dX0_see_8 : decode cX0_see 8 = .ok (.invokevirtual 49, 3) := by decide +kernel
theorem dX0_see_11 : decode cX0_see 11 = .ok (.invokestatic 42, 3) := by decide +kernel
theorem dX0_see_14 : decode cX0_see 14 = .ok (.aload_n 0, 1) := by decide +kernel
theorem dX0_see_15 : decode cX0_see 15 = .ok (.getfield 9, 3) := by decide +kernel
theorem dX0_see_18 : decode cX0_see 18 = .ok (.iconst 1, 1) := by decide +kernel
theorem dX0_see_19 : decode cX0_see 19 = .ok (.iload_n 2, 1) := by decide +kernel
theorem dX0_see_20 : decode cX0_see 20 = .ok (.invokestatic 42, 3) := by decide +kernel
theorem dX0_see_23 : decode cX0_see 23 = .ok (.return_, 1) := by decide +kernel
set_option maxRecDepth 20000 in
theorem ggX0_needs_X6_tell : GoodIn wsX0_needs wsX6_tell := goodIn_r _ [8, 9, 10, 11, 12, 13, 14, 15, 16, 17, 18, 7, 19, 30, 31, 32, 33] rfl (by decide +kernel)
set_option maxRecDepth 20000 in
theorem gX0_needs_X6_tell : GoodIn wsX0_needs (wsV RX0 52 RX6 yX6_tell wsX6_tell) := goodIn_app (goodIn_of _ (by decide +kernel)) ggX0_needs_X6_tell
set_option maxRecDepth 20000 in
theorem ggX0_needs_X7_bound : GoodIn wsX0_needs wsX7_bound := goodIn_r _ [21] rfl (by decide +kernel)
set_option maxRecDepth 20000 in
theorem gX0_needs_X7_bound_n58 : GoodIn wsX0_needs (wsX7_bound) := ggX0_needs_X7_bound
set_option maxRecDepth 20000 in
theorem ggX0_needs_X7_at : GoodIn wsX0_needs wsX7_at := goodIn_r _ [14] rfl (by decide +kernel)
set_option maxRecDepth 20000 in
theorem gX0_needs_X7_at_n20 : GoodIn wsX0_needs (wsX7_at) := ggX0_needs_X7_at
set_option maxRecDepth 20000 in
theorem ggX0_needs_X1_needs : GoodIn wsX0_needs wsX1_needs := goodIn_r _ [25] rfl (by decide +kernel)
set_option maxRecDepth 20000 in
theorem gX0_needs_X1_needs : GoodIn wsX0_needs (va_wsS RX0 62 yX1_needs wsX1_needs) := goodIn_app (goodIn_of _ (by decide +kernel)) ggX0_needs_X1_needs
theorem dX0_needs_0 : decode cX0_needs 0 = .ok (.aload_n 0, 1) := by decide +kernel
theorem dX0_needs_1 : decode cX0_needs 1 = .ok (.getfield 32, 3) := by decide +kernel
theorem dX0_needs_4 : decode cX0_needs 4 = .ok (.ifnonnull 7, 3) := by decide +kernel
theorem dX0_needs_7 : decode cX0_needs 7 = .ok (.iconst 0, 1) := by decide +kernel
theorem dX0_needs_8 : decode cX0_needs 8 = .ok (.goto 21, 3) := by decide +kernel
theorem dX0_needs_11 : decode cX0_needs 11 = .ok (.aload_n 0, 1) := by decide +kernel
theorem dX0_needs_12 : decode cX0_needs 12 = .ok (.getfield 32, 3) := by decide +kernel
theorem dX0_needs_15 : decode cX0_needs 15 = .ok (.iconst 0, 1) := by decide +kernel
theorem dX0_needs_16 : decode cX0_needs 16 = .ok (.aload_n 0, 1) := by decide +kernel
theorem dX0_needs_17 : decode cX0_needs 17 = .ok (.getfield 9, 3) := by decide +kernel
theorem dX0_needs_20 : decode cX0_needs 20 = .ok (.invokevirtual 52, 3) := by decide +kernel
theorem dX0_needs_23 : decode cX0_needs 23 = .ok (.iconst 0, 1) := by decide +kernel
theorem dX0_needs_24 : decode cX0_needs 24 = .ok (.bipush 9, 2) := by decide +kernel
theorem dX0_needs_26 : decode cX0_needs 26 = .ok (.invokestatic 58, 3) := by decide +kernel
theorem dX0_needs_29 : decode cX0_needs 29 = .ok (.istore_n 1, 1) := by decide +kernel
theorem dX0_needs_30 : decode cX0_needs 30 = .ok (.aload_n 0, 1) := by decide +kernel
theorem dX0_needs_31 : decode cX0_needs 31 = .ok (.getfield 24, 3) := by decide +kernel
theorem dX0_needs_34 : decode cX0_needs 34 = .ok (.iload_n 1, 1) := by decide +kernel
theorem dX0_needs_35 : decode cX0_needs 35 = .ok (.aload_n 0, 1) := by decide +kernel
theorem dX0_needs_36 : decode cX0_needs 36 = .ok (.getfield 9, 3) := by decide +kernel
theorem dX0_needs_39 : decode cX0_needs 39 = .ok (.iconst 2, 1) := by decide +kernel
theorem dX0_needs_40 : decode cX0_needs 40 = .ok (.invokestatic 20, 3) := by decide +kernel
theorem dX0_needs_43 : decode cX0_needs 43 = .ok (.invokestatic 62, 3) := by decide +kernel
theorem dX0_needs_46 : decode cX0_needs 46 = .ok (.iconst 1, 1) := by decide +kernel
theorem dX0_needs_47 : decode cX0_needs 47 = .ok (.bipush 9, 2) := by decide +kernel
theorem dX0_needs_49 : decode cX0_needs 49 = .ok (.invokestatic 58, 3) := by decide +kernel
theorem dX0_needs_52 : decode cX0_needs 52 = .ok (.ireturn, 1) := by decide +kernel
set_option maxRecDepth 20000 in
theorem ggX0_takes_X6_tell : GoodIn wsX0_takes wsX6_tell := goodIn_r _ [8, 9, 10, 11, 12, 13, 14, 15, 16, 17, 18, 7, 19, 30, 31, 32, 33] rfl (by decide +kernel)
set_option maxRecDepth 20000 in
theorem gX0_takes_X6_tell : GoodIn wsX0_takes (wsV RX0 52 RX6 yX6_tell wsX6_tell) := goodIn_app (goodIn_of _ (by decide +kernel)) ggX0_takes_X6_tell
set_option maxRecDepth 20000 in
theorem ggX0_takes_X7_bound : GoodIn wsX0_takes wsX7_bound := goodIn_r _ [21] rfl (by decide +kernel)
set_option maxRecDepth 20000 in
theorem gX0_takes_X7_bound_n58 : GoodIn wsX0_takes (wsX7_bound) := ggX0_takes_X7_bound
set_option maxRecDepth 20000 in
theorem ggX0_takes_X7_at : GoodIn wsX0_takes wsX7_at := goodIn_r _ [14] rfl (by decide +kernel)
set_option maxRecDepth 20000 in
theorem gX0_takes_X7_at_n20 : GoodIn wsX0_takes (wsX7_at) := ggX0_takes_X7_at
set_option maxRecDepth 20000 in
theorem ggX0_takes_X1_takes : GoodIn wsX0_takes wsX1_takes := goodIn_r _ [25] rfl (by decide +kernel)
set_option maxRecDepth 20000 in
theorem gX0_takes_X1_takes : GoodIn wsX0_takes (va_wsS RX0 67 yX1_takes wsX1_takes) := goodIn_app (goodIn_of _ (by decide +kernel)) ggX0_takes_X1_takes
theorem dX0_takes_0 : decode cX0_takes 0 = .ok (.aload_n 0, 1) := by decide +kernel
theorem dX0_takes_1 : decode cX0_takes 1 = .ok (.getfield 32, 3) := by decide +kernel
theorem dX0_takes_4 : decode cX0_takes 4 = .ok (.ifnonnull 7, 3) := by decide +kernel
theorem dX0_takes_7 : decode cX0_takes 7 = .ok (.iconst 0, 1) := by decide +kernel
theorem dX0_takes_8 : decode cX0_takes 8 = .ok (.goto 21, 3) := by decide +kernel
theorem dX0_takes_11 : decode cX0_takes 11 = .ok (.aload_n 0, 1) := by decide +kernel
theorem dX0_takes_12 : decode cX0_takes 12 = .ok (.getfield 32, 3) := by decide +kernel
theorem dX0_takes_15 : decode cX0_takes 15 = .ok (.iconst 1, 1) := by decide +kernel
theorem dX0_takes_16 : decode cX0_takes 16 = .ok (.aload_n 0, 1) := by decide +kernel
theorem dX0_takes_17 : decode cX0_takes 17 = .ok (.getfield 9, 3) := by decide +kernel
theorem dX0_takes_20 : decode cX0_takes 20 = .ok (.invokevirtual 52, 3) := by decide +kernel
theorem dX0_takes_23 : decode cX0_takes 23 = .ok (.iconst 0, 1) := by decide +kernel
theorem dX0_takes_24 : decode cX0_takes 24 = .ok (.bipush 24, 2) := by decide +kernel
theorem dX0_takes_26 : decode cX0_takes 26 = .ok (.invokestatic 58, 3) := by decide +kernel
theorem dX0_takes_29 : decode cX0_takes 29 = .ok (.istore_n 1, 1) := by decide +kernel
theorem dX0_takes_30 : decode cX0_takes 30 = .ok (.aload_n 0, 1) := by decide +kernel
theorem dX0_takes_31 : decode cX0_takes 31 = .ok (.getfield 24, 3) := by decide +kernel
theorem dX0_takes_34 : decode cX0_takes 34 = .ok (.iload_n 1, 1) := by decide +kernel
theorem dX0_takes_35 : decode cX0_takes 35 = .ok (.aload_n 0, 1) := by decide +kernel
theorem dX0_takes_36 : decode cX0_takes 36 = .ok (.getfield 9, 3) := by decide +kernel
theorem dX0_takes_39 : decode cX0_takes 39 = .ok (.iconst 2, 1) := by decide +kernel
theorem dX0_takes_40 : decode cX0_takes 40 = .ok (.invokestatic 20, 3) := by decide +kernel
theorem dX0_takes_43 : decode cX0_takes 43 = .ok (.invokestatic 67, 3) := by decide +kernel
theorem dX0_takes_46 : decode cX0_takes 46 = .ok (.iconst 1, 1) := by decide +kernel
theorem dX0_takes_47 : decode cX0_takes 47 = .ok (.bipush 24, 2) := by decide +kernel
theorem dX0_takes_49 : decode cX0_takes 49 = .ok (.invokestatic 58, 3) := by decide +kernel
theorem dX0_takes_52 : decode cX0_takes 52 = .ok (.ireturn, 1) := by decide +kernel
set_option maxRecDepth 20000 in
theorem ggX0_worth_X6_tell : GoodIn wsX0_worth wsX6_tell := goodIn_r _ [8, 9, 10, 11, 12, 13, 14, 15, 16, 17, 18, 7, 19, 30, 31, 32, 33] rfl (by decide +kernel)
set_option maxRecDepth 20000 in
theorem gX0_worth_X6_tell : GoodIn wsX0_worth (wsV RX0 52 RX6 yX6_tell wsX6_tell) := goodIn_app (goodIn_of _ (by decide +kernel)) ggX0_worth_X6_tell
set_option maxRecDepth 20000 in
theorem ggX0_worth_X7_bound : GoodIn wsX0_worth wsX7_bound := goodIn_r _ [21] rfl (by decide +kernel)
set_option maxRecDepth 20000 in
theorem gX0_worth_X7_bound_n58 : GoodIn wsX0_worth (wsX7_bound) := ggX0_worth_X7_bound
set_option maxRecDepth 20000 in
theorem ggX0_worth_X7_at : GoodIn wsX0_worth wsX7_at := goodIn_r _ [14] rfl (by decide +kernel)
set_option maxRecDepth 20000 in
theorem gX0_worth_X7_at_n20 : GoodIn wsX0_worth (wsX7_at) := ggX0_worth_X7_at
set_option maxRecDepth 20000 in
theorem ggX0_worth_X1_worth : GoodIn wsX0_worth wsX1_worth := goodIn_r _ [25] rfl (by decide +kernel)
set_option maxRecDepth 20000 in
theorem gX0_worth_X1_worth : GoodIn wsX0_worth (va_wsS RX0 70 yX1_worth wsX1_worth) := goodIn_app (goodIn_of _ (by decide +kernel)) ggX0_worth_X1_worth
theorem dX0_worth_0 : decode cX0_worth 0 = .ok (.aload_n 0, 1) := by decide +kernel
theorem dX0_worth_1 : decode cX0_worth 1 = .ok (.getfield 32, 3) := by decide +kernel
theorem dX0_worth_4 : decode cX0_worth 4 = .ok (.ifnonnull 7, 3) := by decide +kernel
theorem dX0_worth_7 : decode cX0_worth 7 = .ok (.iconst 0, 1) := by decide +kernel
theorem dX0_worth_8 : decode cX0_worth 8 = .ok (.goto 21, 3) := by decide +kernel
theorem dX0_worth_11 : decode cX0_worth 11 = .ok (.aload_n 0, 1) := by decide +kernel
theorem dX0_worth_12 : decode cX0_worth 12 = .ok (.getfield 32, 3) := by decide +kernel
theorem dX0_worth_15 : decode cX0_worth 15 = .ok (.iconst 2, 1) := by decide +kernel
theorem dX0_worth_16 : decode cX0_worth 16 = .ok (.aload_n 0, 1) := by decide +kernel
theorem dX0_worth_17 : decode cX0_worth 17 = .ok (.getfield 9, 3) := by decide +kernel
theorem dX0_worth_20 : decode cX0_worth 20 = .ok (.invokevirtual 52, 3) := by decide +kernel
theorem dX0_worth_23 : decode cX0_worth 23 = .ok (.iconst 0, 1) := by decide +kernel
theorem dX0_worth_24 : decode cX0_worth 24 = .ok (.bipush 99, 2) := by decide +kernel
theorem dX0_worth_26 : decode cX0_worth 26 = .ok (.invokestatic 58, 3) := by decide +kernel
theorem dX0_worth_29 : decode cX0_worth 29 = .ok (.istore_n 1, 1) := by decide +kernel
theorem dX0_worth_30 : decode cX0_worth 30 = .ok (.aload_n 0, 1) := by decide +kernel
theorem dX0_worth_31 : decode cX0_worth 31 = .ok (.getfield 24, 3) := by decide +kernel
theorem dX0_worth_34 : decode cX0_worth 34 = .ok (.iload_n 1, 1) := by decide +kernel
theorem dX0_worth_35 : decode cX0_worth 35 = .ok (.aload_n 0, 1) := by decide +kernel
theorem dX0_worth_36 : decode cX0_worth 36 = .ok (.getfield 9, 3) := by decide +kernel
theorem dX0_worth_39 : decode cX0_worth 39 = .ok (.iconst 2, 1) := by decide +kernel
theorem dX0_worth_40 : decode cX0_worth 40 = .ok (.invokestatic 20, 3) := by decide +kernel
theorem dX0_worth_43 : decode cX0_worth 43 = .ok (.aload_n 0, 1) := by decide +kernel
theorem dX0_worth_44 : decode cX0_worth 44 = .ok (.getfield 9, 3) := by decide +kernel
theorem dX0_worth_47 : decode cX0_worth 47 = .ok (.iconst 1, 1) := by decide +kernel
theorem dX0_worth_48 : decode cX0_worth 48 = .ok (.invokestatic 20, 3) := by decide +kernel
theorem dX0_worth_51 : decode cX0_worth 51 = .ok (.invokestatic 70, 3) := by decide +kernel
theorem dX0_worth_54 : decode cX0_worth 54 = .ok (.iconst 0, 1) := by decide +kernel
theorem dX0_worth_55 : decode cX0_worth 55 = .ok (.sipush 999, 3) := by decide +kernel
theorem dX0_worth_58 : decode cX0_worth 58 = .ok (.invokestatic 58, 3) := by decide +kernel
theorem dX0_worth_61 : decode cX0_worth 61 = .ok (.ireturn, 1) := by decide +kernel
set_option maxRecDepth 20000 in
theorem ggX0_lastHour_X0_rainIn : GoodIn wsX0_lastHour wsX0_rainIn := goodIn_r _ [5, 6, 51, 52, 53, 54] rfl (by decide +kernel)
set_option maxRecDepth 20000 in
theorem gX0_lastHour_X0_rainIn : GoodIn wsX0_lastHour (wsV RX0 49 RX0 yX0_rainIn wsX0_rainIn) := goodIn_app (goodIn_of _ (by decide +kernel)) ggX0_lastHour_X0_rainIn
set_option maxRecDepth 20000 in
theorem ggX0_lastHour_X0_see : GoodIn wsX0_lastHour wsX0_see := goodIn_r _ [10, 11, 1, 2, 3, 4, 5, 6, 12, 13, 14, 51, 52, 53, 54] rfl (by decide +kernel)
set_option maxRecDepth 20000 in
theorem gX0_lastHour_X0_see : GoodIn wsX0_lastHour (wsV RX0 74 RX0 yX0_see wsX0_see) := goodIn_app (goodIn_of _ (by decide +kernel)) ggX0_lastHour_X0_see
set_option maxRecDepth 20000 in
theorem ggX0_lastHour_X0_needs : GoodIn wsX0_lastHour wsX0_needs := goodIn_r _ [18, 19, 11, 20, 21, 22, 23, 24, 25, 26, 27, 28, 29, 13, 30, 12, 14, 31, 32, 33, 34, 35, 36, 37, 38, 39, 51, 52, 53, 54, 55, 56, 57, 58] rfl (by decide +kernel)
set_option maxRecDepth 20000 in
theorem gX0_lastHour_X0_needs : GoodIn wsX0_lastHour (wsV RX0 78 RX0 yX0_needs wsX0_needs) := goodIn_app (goodIn_of _ (by decide +kernel)) ggX0_lastHour_X0_needs
set_option maxRecDepth 20000 in
theorem ggX0_lastHour_X0_takes : GoodIn wsX0_lastHour wsX0_takes := goodIn_r _ [43, 19, 11, 20, 21, 22, 23, 24, 25, 26, 27, 28, 29, 13, 30, 12, 14, 31, 32, 33, 34, 35, 44, 45, 38, 46, 51, 52, 53, 54, 55, 56, 57, 58] rfl (by decide +kernel)
set_option maxRecDepth 20000 in
theorem gX0_lastHour_X0_takes : GoodIn wsX0_lastHour (wsV RX0 81 RX0 yX0_takes wsX0_takes) := goodIn_app (goodIn_of _ (by decide +kernel)) ggX0_lastHour_X0_takes
set_option maxRecDepth 20000 in
theorem ggX0_lastHour_X0_lastHeld : GoodIn wsX0_lastHour wsX0_lastHeld := goodIn_r _ [50, 1, 2, 3, 4, 5, 6, 51, 52, 53, 54] rfl (by decide +kernel)
set_option maxRecDepth 20000 in
theorem gX0_lastHour_X0_lastHeld : GoodIn wsX0_lastHour (wsV RX0 83 RX0 yX0_lastHeld wsX0_lastHeld) := goodIn_app (goodIn_of _ (by decide +kernel)) ggX0_lastHour_X0_lastHeld
theorem dX0_lastHour_0 : decode cX0_lastHour 0 = .ok (.aload_n 0, 1) := by decide +kernel
theorem dX0_lastHour_1 : decode cX0_lastHour 1 = .ok (.aload_n 1, 1) := by decide +kernel
theorem dX0_lastHour_2 : decode cX0_lastHour 2 = .ok (.iload_n 2, 1) := by decide +kernel
theorem dX0_lastHour_3 : decode cX0_lastHour 3 = .ok (.invokevirtual 49, 3) := by decide +kernel
theorem dX0_lastHour_6 : decode cX0_lastHour 6 = .ok (.ifCond .ne 5, 3) := by decide +kernel
theorem dX0_lastHour_9 : decode cX0_lastHour 9 = .ok (.iconst (-1), 1) := by decide +kernel
theorem dX0_lastHour_10 : decode cX0_lastHour 10 = .ok (.ireturn, 1) := by decide +kernel
theorem dX0_lastHour_11 : decode cX0_lastHour 11 = .ok (.aload_n 0, 1) := by decide +kernel
theorem dX0_lastHour_12 : decode cX0_lastHour 12 = .ok (.aload_n 1, 1) := by decide +kernel
theorem dX0_lastHour_13 : decode cX0_lastHour 13 = .ok (.iload_n 2, 1) := by decide +kernel
theorem dX0_lastHour_14 : decode cX0_lastHour 14 = .ok (.invokevirtual 74, 3) := by decide +kernel
theorem dX0_lastHour_17 : decode cX0_lastHour 17 = .ok (.aload_n 0, 1) := by decide +kernel
theorem dX0_lastHour_18 : decode cX0_lastHour 18 = .ok (.aload_n 1, 1) := by decide +kernel
theorem dX0_lastHour_19 : decode cX0_lastHour 19 = .ok (.iload_n 2, 1) := by decide +kernel
theorem dX0_lastHour_20 : decode cX0_lastHour 20 = .ok (.aload_n 0, 1) := by decide +kernel
theorem dX0_lastHour_21 : decode cX0_lastHour 21 = .ok (.invokevirtual 78, 3) := by decide +kernel
theorem dX0_lastHour_24 : decode cX0_lastHour 24 = .ok (.aload_n 0, 1) := by decide +kernel
theorem dX0_lastHour_25 : decode cX0_lastHour 25 = .ok (.invokevirtual 81, 3) := by decide +kernel
theorem dX0_lastHour_28 : decode cX0_lastHour 28 = .ok (.invokevirtual 83, 3) := by decide +kernel
theorem dX0_lastHour_31 : decode cX0_lastHour 31 = .ok (.ireturn, 1) := by decide +kernel
set_option maxRecDepth 20000 in
theorem ggX0_lastHeld_X0_rainIn : GoodIn wsX0_lastHeld wsX0_rainIn := goodIn_r _ [5, 6, 7, 8, 9, 10] rfl (by decide +kernel)
set_option maxRecDepth 20000 in
theorem gX0_lastHeld_X0_rainIn : GoodIn wsX0_lastHeld (wsV RX0 49 RX0 yX0_rainIn wsX0_rainIn) := goodIn_app (goodIn_of _ (by decide +kernel)) ggX0_lastHeld_X0_rainIn
theorem dX0_lastHeld_0 : decode cX0_lastHeld 0 = .ok (.iload_n 2, 1) := by decide +kernel
theorem dX0_lastHeld_1 : decode cX0_lastHeld 1 = .ok (.iload 4, 2) := by decide +kernel
theorem dX0_lastHeld_3 : decode cX0_lastHeld 3 = .ok (.iadd, 1) := by decide +kernel
theorem dX0_lastHeld_4 : decode cX0_lastHeld 4 = .ok (.iconst 1, 1) := by decide +kernel
theorem dX0_lastHeld_5 : decode cX0_lastHeld 5 = .ok (.isub, 1) := by decide +kernel
theorem dX0_lastHeld_6 : decode cX0_lastHeld 6 = .ok (.istore 5, 2) := by decide +kernel
theorem dX0_lastHeld_8 : decode cX0_lastHeld 8 = .ok (.iload 5, 2) := by decide +kernel
theorem dX0_lastHeld_10 : decode cX0_lastHeld 10 = .ok (.bipush 24, 2) := by decide +kernel
theorem dX0_lastHeld_12 : decode cX0_lastHeld 12 = .ok (.if_icmp .lt 5, 3) := by decide +kernel
theorem dX0_lastHeld_15 : decode cX0_lastHeld 15 = .ok (.iconst (-1), 1) := by decide +kernel
theorem dX0_lastHeld_16 : decode cX0_lastHeld 16 = .ok (.ireturn, 1) := by decide +kernel
theorem dX0_lastHeld_17 : decode cX0_lastHeld 17 = .ok (.iload_n 2, 1) := by decide +kernel
theorem dX0_lastHeld_18 : decode cX0_lastHeld 18 = .ok (.istore 6, 2) := by decide +kernel
theorem dX0_lastHeld_20 : decode cX0_lastHeld 20 = .ok (.iload 6, 2) := by decide +kernel
theorem dX0_lastHeld_22 : decode cX0_lastHeld 22 = .ok (.iload 5, 2) := by decide +kernel
theorem dX0_lastHeld_24 : decode cX0_lastHeld 24 = .ok (.if_icmp .gt 22, 3) := by decide +kernel
theorem dX0_lastHeld_27 : decode cX0_lastHeld 27 = .ok (.aload_n 0, 1) := by decide +kernel
theorem dX0_lastHeld_28 : decode cX0_lastHeld 28 = .ok (.aload_n 1, 1) := by decide +kernel
theorem dX0_lastHeld_29 : decode cX0_lastHeld 29 = .ok (.iload 6, 2) := by decide +kernel
theorem dX0_lastHeld_31 : decode cX0_lastHeld 31 = .ok (.invokevirtual 49, 3) := by decide +kernel
theorem dX0_lastHeld_34 : decode cX0_lastHeld 34 = .ok (.iload_n 3, 1) := by decide +kernel
theorem dX0_lastHeld_35 : decode cX0_lastHeld 35 = .ok (.if_icmp .ge 5, 3) := by decide +kernel
theorem dX0_lastHeld_38 : decode cX0_lastHeld 38 = .ok (.iconst (-1), 1) := by decide +kernel
theorem dX0_lastHeld_39 : decode cX0_lastHeld 39 = .ok (.ireturn, 1) := by decide +kernel
theorem dX0_lastHeld_40 : decode cX0_lastHeld 40 = .ok (.iinc 6 1, 3) := by decide +kernel
theorem dX0_lastHeld_43 : decode cX0_lastHeld 43 = .ok (.goto (-23), 3) := by decide +kernel
theorem dX0_lastHeld_46 : decode cX0_lastHeld 46 = .ok (.iload 5, 2) := by decide +kernel
theorem dX0_lastHeld_48 : decode cX0_lastHeld 48 = .ok (.ireturn, 1) := by decide +kernel
set_option maxRecDepth 20000 in
theorem ggX0_shakenHour_X0_lastHour : GoodIn wsX0_shakenHour wsX0_lastHour := goodIn_r _ [5, 6, 7, 8, 4, 9, 10, 11, 12, 13, 14, 15, 16, 17, 18, 19, 20, 21, 22, 23, 24, 25, 26, 27, 28, 29, 30, 31, 32, 33, 34, 35, 36, 37, 38, 39, 40, 41, 42, 43, 44, 45, 46, 47, 48, 49, 50, 51, 52, 53, 54, 55, 56, 57, 58, 59, 60, 61, 62] rfl (by decide +kernel)
set_option maxRecDepth 20000 in
theorem gX0_shakenHour_X0_lastHour : GoodIn wsX0_shakenHour (wsV RX0 87 RX0 yX0_lastHour wsX0_lastHour) := goodIn_app (goodIn_of _ (by decide +kernel)) ggX0_shakenHour_X0_lastHour
theorem dX0_shakenHour_0 : decode cX0_shakenHour 0 = .ok (.iload_n 2, 1) := by decide +kernel
theorem dX0_shakenHour_1 : decode cX0_shakenHour 1 = .ok (.istore_n 3, 1) := by decide +kernel
theorem dX0_shakenHour_2 : decode cX0_shakenHour 2 = .ok (.iload_n 3, 1) := by decide +kernel
theorem dX0_shakenHour_3 : decode cX0_shakenHour 3 = .ok (.bipush 24, 2) := by decide +kernel
theorem dX0_shakenHour_5 : decode cX0_shakenHour 5 = .ok (.if_icmp .ge 26, 3) := by decide +kernel
theorem dX0_shakenHour_8 : decode cX0_shakenHour 8 = .ok (.aload_n 0, 1) := by decide +kernel
theorem dX0_shakenHour_9 : decode cX0_shakenHour 9 = .ok (.aload_n 1, 1) := by decide +kernel
theorem dX0_shakenHour_10 : decode cX0_shakenHour 10 = .ok (.iload_n 3, 1) := by decide +kernel
theorem dX0_shakenHour_11 : decode cX0_shakenHour 11 = .ok (.invokevirtual 87, 3) := by decide +kernel
theorem dX0_shakenHour_14 : decode cX0_shakenHour 14 = .ok (.istore 4, 2) := by decide +kernel
theorem dX0_shakenHour_16 : decode cX0_shakenHour 16 = .ok (.iload 4, 2) := by decide +kernel
theorem dX0_shakenHour_18 : decode cX0_shakenHour 18 = .ok (.iconst (-1), 1) := by decide +kernel
theorem dX0_shakenHour_19 : decode cX0_shakenHour 19 = .ok (.if_icmp .eq 6, 3) := by decide +kernel
theorem dX0_shakenHour_22 : decode cX0_shakenHour 22 = .ok (.iload 4, 2) := by decide +kernel
theorem dX0_shakenHour_24 : decode cX0_shakenHour 24 = .ok (.ireturn, 1) := by decide +kernel
theorem dX0_shakenHour_25 : decode cX0_shakenHour 25 = .ok (.iinc 3 1, 3) := by decide +kernel
theorem dX0_shakenHour_28 : decode cX0_shakenHour 28 = .ok (.goto (-26), 3) := by decide +kernel
theorem dX0_shakenHour_31 : decode cX0_shakenHour 31 = .ok (.iconst (-1), 1) := by decide +kernel
theorem dX0_shakenHour_32 : decode cX0_shakenHour 32 = .ok (.ireturn, 1) := by decide +kernel
set_option maxRecDepth 20000 in
theorem ggX0_firstOther_X0_see : GoodIn wsX0_firstOther wsX0_see := goodIn_r _ [6, 7, 8, 9, 10, 5, 11, 12, 13, 14, 15, 50, 51, 52, 53] rfl (by decide +kernel)
set_option maxRecDepth 20000 in
theorem gX0_firstOther_X0_see : GoodIn wsX0_firstOther (wsV RX0 74 RX0 yX0_see wsX0_see) := goodIn_app (goodIn_of _ (by decide +kernel)) ggX0_firstOther_X0_see
set_option maxRecDepth 20000 in
theorem ggX0_firstOther_X5_read : GoodIn wsX0_firstOther wsX5_read := goodIn_r _ [20, 21, 22, 14, 23, 47, 48, 49] rfl (by decide +kernel)
set_option maxRecDepth 20000 in
theorem gX0_firstOther_X5_read : GoodIn wsX0_firstOther (wsV RX0 95 RX5 yX5_read wsX5_read) := goodIn_app (goodIn_of _ (by decide +kernel)) ggX0_firstOther_X5_read
set_option maxRecDepth 20000 in
theorem ggX0_firstOther_X0_worth : GoodIn wsX0_firstOther wsX0_worth := goodIn_r _ [27, 28, 7, 29, 30, 31, 32, 33, 34, 35, 36, 37, 22, 14, 23, 13, 15, 38, 39, 40, 41, 42, 43, 44, 45, 46, 50, 51, 52, 53, 54, 55, 56, 57] rfl (by decide +kernel)
set_option maxRecDepth 20000 in
theorem gX0_firstOther_X0_worth : GoodIn wsX0_firstOther (wsV RX0 99 RX0 yX0_worth wsX0_worth) := goodIn_app (goodIn_of _ (by decide +kernel)) ggX0_firstOther_X0_worth
theorem dX0_firstOther_0 : decode cX0_firstOther 0 = .ok (.aload_n 1, 1) := by decide +kernel
theorem dX0_firstOther_1 : decode cX0_firstOther 1 = .ok (.ifnonnull 5, 3) := by decide +kernel
theorem dX0_firstOther_4 : decode cX0_firstOther 4 = .ok (.iconst (-1), 1) := by decide +kernel
theorem dX0_firstOther_5 : decode cX0_firstOther 5 = .ok (.ireturn, 1) := by decide +kernel
theorem dX0_firstOther_6 : decode cX0_firstOther 6 = .ok (.iconst 0, 1) := by decide +kernel
theorem dX0_firstOther_7 : decode cX0_firstOther 7 = .ok (.istore_n 3, 1) := by decide +kernel
theorem dX0_firstOther_8 : decode cX0_firstOther 8 = .ok (.iload_n 3, 1) := by decide +kernel
theorem dX0_firstOther_9 : decode cX0_firstOther 9 = .ok (.aload_n 1, 1) := by decide +kernel
theorem dX0_firstOther_10 : decode cX0_firstOther 10 = .ok (.getfield 90, 3) := by decide +kernel
theorem dX0_firstOther_13 : decode cX0_firstOther 13 = .ok (.if_icmp .ge 29, 3) := by decide +kernel
theorem dX0_firstOther_16 : decode cX0_firstOther 16 = .ok (.aload_n 0, 1) := by decide +kernel
theorem dX0_firstOther_17 : decode cX0_firstOther 17 = .ok (.aload_n 2, 1) := by decide +kernel
theorem dX0_firstOther_18 : decode cX0_firstOther 18 = .ok (.iload_n 3, 1) := by decide +kernel
theorem dX0_firstOther_19 : decode cX0_firstOther 19 = .ok (.invokevirtual 74, 3) := by decide +kernel
theorem dX0_firstOther_22 : decode cX0_firstOther 22 = .ok (.aload_n 1, 1) := by decide +kernel
theorem dX0_firstOther_23 : decode cX0_firstOther 23 = .ok (.iload_n 3, 1) := by decide +kernel
theorem dX0_firstOther_24 : decode cX0_firstOther 24 = .ok (.invokevirtual 95, 3) := by decide +kernel
theorem dX0_firstOther_27 : decode cX0_firstOther 27 = .ok (.aload_n 0, 1) := by decide +kernel
theorem dX0_firstOther_28 : decode cX0_firstOther 28 = .ok (.invokevirtual 99, 3) := by decide +kernel
theorem dX0_firstOther_31 : decode cX0_firstOther 31 = .ok (.if_icmp .eq 5, 3) := by decide +kernel
theorem dX0_firstOther_34 : decode cX0_firstOther 34 = .ok (.iload_n 3, 1) := by decide +kernel
theorem dX0_firstOther_35 : decode cX0_firstOther 35 = .ok (.ireturn, 1) := by decide +kernel
theorem dX0_firstOther_36 : decode cX0_firstOther 36 = .ok (.iinc 3 1, 3) := by decide +kernel
theorem dX0_firstOther_39 : decode cX0_firstOther 39 = .ok (.goto (-31), 3) := by decide +kernel
theorem dX0_firstOther_42 : decode cX0_firstOther 42 = .ok (.iconst (-1), 1) := by decide +kernel
theorem dX0_firstOther_43 : decode cX0_firstOther 43 = .ok (.ireturn, 1) := by decide +kernel
theorem dX0_rainIn_0 : decode cX0_rainIn 0 = .ok (.aload_n 0, 1) := by decide +kernel
theorem dX0_rainIn_1 : decode cX0_rainIn 1 = .ok (.getfield 36, 3) := by decide +kernel
theorem dX0_rainIn_4 : decode cX0_rainIn 4 = .ok (.bipush 24, 2) := by decide +kernel
theorem dX0_rainIn_6 : decode cX0_rainIn 6 = .ok (.imul, 1) := by decide +kernel
theorem dX0_rainIn_7 : decode cX0_rainIn 7 = .ok (.iload_n 2, 1) := by decide +kernel
theorem dX0_rainIn_8 : decode cX0_rainIn 8 = .ok (.iadd, 1) := by decide +kernel
theorem dX0_rainIn_9 : decode cX0_rainIn 9 = .ok (.istore_n 3, 1) := by decide +kernel
theorem dX0_rainIn_10 : decode cX0_rainIn 10 = .ok (.aload_n 1, 1) := by decide +kernel
theorem dX0_rainIn_11 : decode cX0_rainIn 11 = .ok (.ifnull 29, 3) := by decide +kernel
theorem dX0_rainIn_14 : decode cX0_rainIn 14 = .ok (.iload_n 2, 1) := by decide +kernel
theorem dX0_rainIn_15 : decode cX0_rainIn 15 = .ok (.ifCond .lt 25, 3) := by decide +kernel
theorem dX0_rainIn_18 : decode cX0_rainIn 18 = .ok (.iload_n 2, 1) := by decide +kernel
theorem dX0_rainIn_19 : decode cX0_rainIn 19 = .ok (.bipush 24, 2) := by decide +kernel
theorem dX0_rainIn_21 : decode cX0_rainIn 21 = .ok (.if_icmp .ge 19, 3) := by decide +kernel
theorem dX0_rainIn_24 : decode cX0_rainIn 24 = .ok (.iload_n 3, 1) := by decide +kernel
theorem dX0_rainIn_25 : decode cX0_rainIn 25 = .ok (.ifCond .lt 15, 3) := by decide +kernel
theorem dX0_rainIn_28 : decode cX0_rainIn 28 = .ok (.iload_n 3, 1) := by decide +kernel
theorem dX0_rainIn_29 : decode cX0_rainIn 29 = .ok (.aload_n 1, 1) := by decide +kernel
theorem dX0_rainIn_30 : decode cX0_rainIn 30 = .ok (.arraylength, 1) := by decide +kernel
theorem dX0_rainIn_31 : decode cX0_rainIn 31 = .ok (.if_icmp .ge 9, 3) := by decide +kernel
theorem dX0_rainIn_34 : decode cX0_rainIn 34 = .ok (.aload_n 1, 1) := by decide +kernel
theorem dX0_rainIn_35 : decode cX0_rainIn 35 = .ok (.iload_n 3, 1) := by decide +kernel
theorem dX0_rainIn_36 : decode cX0_rainIn 36 = .ok (.iaload, 1) := by decide +kernel
theorem dX0_rainIn_37 : decode cX0_rainIn 37 = .ok (.goto 4, 3) := by decide +kernel
theorem dX0_rainIn_40 : decode cX0_rainIn 40 = .ok (.iconst 0, 1) := by decide +kernel
theorem dX0_rainIn_41 : decode cX0_rainIn 41 = .ok (.ireturn, 1) := by decide +kernel
theorem dX1_needs_0 : decode cX1_needs 0 = .ok (.iload_n 0, 1) := by decide +kernel
theorem dX1_needs_1 : decode cX1_needs 1 = .ok (.tableswitch 53 1 5 #[35, 39, 35, 43, 51], 35) := by decide +kernel
theorem dX1_needs_36 : decode cX1_needs 36 = .ok (.iload_n 1, 1) := by decide +kernel
theorem dX1_needs_37 : decode cX1_needs 37 = .ok (.iconst 2, 1) := by decide +kernel
theorem dX1_needs_38 : decode cX1_needs 38 = .ok (.idiv, 1) := by decide +kernel
theorem dX1_needs_39 : decode cX1_needs 39 = .ok (.ireturn, 1) := by decide +kernel
theorem dX1_needs_40 : decode cX1_needs 40 = .ok (.iload_n 1, 1) := by decide +kernel
theorem dX1_needs_41 : decode cX1_needs 41 = .ok (.iconst 2, 1) := by decide +kernel
theorem dX1_needs_42 : decode cX1_needs 42 = .ok (.iadd, 1) := by decide +kernel
theorem dX1_needs_43 : decode cX1_needs 43 = .ok (.ireturn, 1) := by decide +kernel
theorem dX1_needs_44 : decode cX1_needs 44 = .ok (.iload_n 1, 1) := by decide +kernel
theorem dX1_needs_45 : decode cX1_needs 45 = .ok (.iconst 2, 1) := by decide +kernel
theorem dX1_needs_46 : decode cX1_needs 46 = .ok (.iadd, 1) := by decide +kernel
theorem dX1_needs_47 : decode cX1_needs 47 = .ok (.iload_n 2, 1) := by decide +kernel
theorem dX1_needs_48 : decode cX1_needs 48 = .ok (.iconst 3, 1) := by decide +kernel
theorem dX1_needs_49 : decode cX1_needs 49 = .ok (.idiv, 1) := by decide +kernel
theorem dX1_needs_50 : decode cX1_needs 50 = .ok (.iadd, 1) := by decide +kernel
theorem dX1_needs_51 : decode cX1_needs 51 = .ok (.ireturn, 1) := by decide +kernel
theorem dX1_needs_52 : decode cX1_needs 52 = .ok (.iconst 1, 1) := by decide +kernel
theorem dX1_needs_53 : decode cX1_needs 53 = .ok (.ireturn, 1) := by decide +kernel
theorem dX1_needs_54 : decode cX1_needs 54 = .ok (.iload_n 1, 1) := by decide +kernel
theorem dX1_needs_55 : decode cX1_needs 55 = .ok (.ireturn, 1) := by decide +kernel
theorem dX1_takes_0 : decode cX1_takes 0 = .ok (.iload_n 0, 1) := by decide +kernel
theorem dX1_takes_1 : decode cX1_takes 1 = .ok (.tableswitch 53 1 5 #[35, 47, 39, 47, 51], 35) := by decide +kernel
theorem dX1_takes_36 : decode cX1_takes 36 = .ok (.iload_n 1, 1) := by decide +kernel
theorem dX1_takes_37 : decode cX1_takes 37 = .ok (.iconst 1, 1) := by decide +kernel
theorem dX1_takes_38 : decode cX1_takes 38 = .ok (.isub, 1) := by decide +kernel
theorem dX1_takes_39 : decode cX1_takes 39 = .ok (.ireturn, 1) := by decide +kernel
theorem dX1_takes_40 : decode cX1_takes 40 = .ok (.iload_n 1, 1) := by decide +kernel
theorem dX1_takes_41 : decode cX1_takes 41 = .ok (.iconst 1, 1) := by decide +kernel
theorem dX1_takes_42 : decode cX1_takes 42 = .ok (.isub, 1) := by decide +kernel
theorem dX1_takes_43 : decode cX1_takes 43 = .ok (.iload_n 2, 1) := by decide +kernel
theorem dX1_takes_44 : decode cX1_takes 44 = .ok (.iconst 3, 1) := by decide +kernel
theorem dX1_takes_45 : decode cX1_takes 45 = .ok (.irem, 1) := by decide +kernel
theorem dX1_takes_46 : decode cX1_takes 46 = .ok (.iadd, 1) := by decide +kernel
theorem dX1_takes_47 : decode cX1_takes 47 = .ok (.ireturn, 1) := by decide +kernel
theorem dX1_takes_48 : decode cX1_takes 48 = .ok (.iload_n 1, 1) := by decide +kernel
theorem dX1_takes_49 : decode cX1_takes 49 = .ok (.iconst 2, 1) := by decide +kernel
theorem dX1_takes_50 : decode cX1_takes 50 = .ok (.imul, 1) := by decide +kernel
theorem dX1_takes_51 : decode cX1_takes 51 = .ok (.ireturn, 1) := by decide +kernel
theorem dX1_takes_52 : decode cX1_takes 52 = .ok (.iconst 1, 1) := by decide +kernel
theorem dX1_takes_53 : decode cX1_takes 53 = .ok (.ireturn, 1) := by decide +kernel
theorem dX1_takes_54 : decode cX1_takes 54 = .ok (.iload_n 1, 1) := by decide +kernel
theorem dX1_takes_55 : decode cX1_takes 55 = .ok (.ireturn, 1) := by decide +kernel
theorem dX1_worth_0 : decode cX1_worth 0 = .ok (.iload_n 0, 1) := by decide +kernel
theorem dX1_worth_1 : decode cX1_worth 1 = .ok (.tableswitch 73 2 5 #[31, 36, 42, 62], 31) := by decide +kernel
theorem dX1_worth_32 : decode cX1_worth 32 = .ok (.iload_n 1, 1) := by decide +kernel
theorem dX1_worth_33 : decode cX1_worth 33 = .ok (.bipush 10, 2) := by decide +kernel
theorem dX1_worth_35 : decode cX1_worth 35 = .ok (.iadd, 1) := by decide +kernel
theorem dX1_worth_36 : decode cX1_worth 36 = .ok (.ireturn, 1) := by decide +kernel
theorem dX1_worth_37 : decode cX1_worth 37 = .ok (.iload_n 1, 1) := by decide +kernel
theorem dX1_worth_38 : decode cX1_worth 38 = .ok (.iload_n 3, 1) := by decide +kernel
theorem dX1_worth_39 : decode cX1_worth 39 = .ok (.iconst 2, 1) := by decide +kernel
theorem dX1_worth_40 : decode cX1_worth 40 = .ok (.imul, 1) := by decide +kernel
theorem dX1_worth_41 : decode cX1_worth 41 = .ok (.isub, 1) := by decide +kernel
theorem dX1_worth_42 : decode cX1_worth 42 = .ok (.ireturn, 1) := by decide +kernel
theorem dX1_worth_43 : decode cX1_worth 43 = .ok (.iload_n 3, 1) := by decide +kernel
theorem dX1_worth_44 : decode cX1_worth 44 = .ok (.bipush 12, 2) := by decide +kernel
theorem dX1_worth_46 : decode cX1_worth 46 = .ok (.if_icmp .lt 12, 3) := by decide +kernel
theorem dX1_worth_49 : decode cX1_worth 49 = .ok (.iload_n 1, 1) := by decide +kernel
theorem dX1_worth_50 : decode cX1_worth 50 = .ok (.bipush 10, 2) := by decide +kernel
theorem dX1_worth_52 : decode cX1_worth 52 = .ok (.iadd, 1) := by decide +kernel
theorem dX1_worth_53 : decode cX1_worth 53 = .ok (.iconst 2, 1) := by decide +kernel
theorem dX1_worth_54 : decode cX1_worth 54 = .ok (.imul, 1) := by decide +kernel
theorem dX1_worth_55 : decode cX1_worth 55 = .ok (.goto 7, 3) := by decide +kernel
theorem dX1_worth_58 : decode cX1_worth 58 = .ok (.iload_n 1, 1) := by decide +kernel
theorem dX1_worth_59 : decode cX1_worth 59 = .ok (.bipush 10, 2) := by decide +kernel
theorem dX1_worth_61 : decode cX1_worth 61 = .ok (.iadd, 1) := by decide +kernel
theorem dX1_worth_62 : decode cX1_worth 62 = .ok (.ireturn, 1) := by decide +kernel
theorem dX1_worth_63 : decode cX1_worth 63 = .ok (.iload_n 3, 1) := by decide +kernel
theorem dX1_worth_64 : decode cX1_worth 64 = .ok (.iconst 3, 1) := by decide +kernel
theorem dX1_worth_65 : decode cX1_worth 65 = .ok (.if_icmp .ge 7, 3) := by decide +kernel
theorem dX1_worth_68 : decode cX1_worth 68 = .ok (.iload_n 2, 1) := by decide +kernel
theorem dX1_worth_69 : decode cX1_worth 69 = .ok (.goto 4, 3) := by decide +kernel
theorem dX1_worth_72 : decode cX1_worth 72 = .ok (.iconst 0, 1) := by decide +kernel
theorem dX1_worth_73 : decode cX1_worth 73 = .ok (.ireturn, 1) := by decide +kernel
theorem dX1_worth_74 : decode cX1_worth 74 = .ok (.iload_n 1, 1) := by decide +kernel
theorem dX1_worth_75 : decode cX1_worth 75 = .ok (.ireturn, 1) := by decide +kernel
theorem dX1_isUnder_0 : decode cX1_isUnder 0 = .ok (.iload_n 0, 1) := by decide +kernel
theorem dX1_isUnder_1 : decode cX1_isUnder 1 = .ok (.istore_n 2, 1) := by decide +kernel
theorem dX1_isUnder_2 : decode cX1_isUnder 2 = .ok (.iconst 0, 1) := by decide +kernel
theorem dX1_isUnder_3 : decode cX1_isUnder 3 = .ok (.istore_n 3, 1) := by decide +kernel
theorem dX1_isUnder_4 : decode cX1_isUnder 4 = .ok (.iload_n 3, 1) := by decide +kernel
theorem dX1_isUnder_5 : decode cX1_isUnder 5 = .ok (.bipush 6, 2) := by decide +kernel
theorem dX1_isUnder_7 : decode cX1_isUnder 7 = .ok (.if_icmp .ge 34, 3) := by decide +kernel
theorem dX1_isUnder_10 : decode cX1_isUnder 10 = .ok (.iload_n 2, 1) := by decide +kernel
theorem dX1_isUnder_11 : decode cX1_isUnder 11 = .ok (.ifCond .lt 30, 3) := by decide +kernel
theorem dX1_isUnder_14 : decode cX1_isUnder 14 = .ok (.iload_n 2, 1) := by decide +kernel
theorem dX1_isUnder_15 : decode cX1_isUnder 15 = .ok (.getstatic 9, 3) := by decide +kernel
theorem dX1_isUnder_18 : decode cX1_isUnder 18 = .ok (.arraylength, 1) := by decide +kernel
theorem dX1_isUnder_19 : decode cX1_isUnder 19 = .ok (.if_icmp .ge 22, 3) := by decide +kernel
theorem dX1_isUnder_22 : decode cX1_isUnder 22 = .ok (.iload_n 2, 1) := by decide +kernel
theorem dX1_isUnder_23 : decode cX1_isUnder 23 = .ok (.iload_n 1, 1) := by decide +kernel
theorem dX1_isUnder_24 : decode cX1_isUnder 24 = .ok (.if_icmp .ne 5, 3) := by decide +kernel
theorem dX1_isUnder_27 : decode cX1_isUnder 27 = .ok (.iconst 1, 1) := by decide +kernel
theorem dX1_isUnder_28 : decode cX1_isUnder 28 = .ok (.ireturn, 1) := by decide +kernel
theorem dX1_isUnder_29 : decode cX1_isUnder 29 = .ok (.getstatic 9, 3) := by decide +kernel
theorem dX1_isUnder_32 : decode cX1_isUnder 32 = .ok (.iload_n 2, 1) := by decide +kernel
theorem dX1_isUnder_33 : decode cX1_isUnder 33 = .ok (.iaload, 1) := by decide +kernel
theorem dX1_isUnder_34 : decode cX1_isUnder 34 = .ok (.istore_n 2, 1) := by decide +kernel
theorem dX1_isUnder_35 : decode cX1_isUnder 35 = .ok (.iinc 3 1, 3) := by decide +kernel
theorem dX1_isUnder_38 : decode cX1_isUnder 38 = .ok (.goto (-34), 3) := by decide +kernel
theorem dX1_isUnder_41 : decode cX1_isUnder 41 = .ok (.iconst 0, 1) := by decide +kernel
theorem dX1_isUnder_42 : decode cX1_isUnder 42 = .ok (.ireturn, 1) := by decide +kernel
theorem dX2_init_0 : decode cX2_init 0 = .ok (.aload_n 0, 1) := by decide +kernel
theorem dX2_init_1 : decode cX2_init 1 = .ok (.invokespecial 3, 3) := by decide +kernel
theorem dX2_init_4 : decode cX2_init 4 = .ok (.aload_n 0, 1) := by decide +kernel
theorem dX2_init_5 : decode cX2_init 5 = .ok (.bipush 48, 2) := by decide +kernel
theorem dX2_init_7 : decode cX2_init 7 = .ok (.newarray .int, 2) := by decide +kernel
theorem dX2_init_9 : decode cX2_init 9 = .ok (.putfield 9, 3) := by decide +kernel
theorem dX2_init_12 : decode cX2_init 12 = .ok (.aload_n 0, 1) := by decide +kernel
theorem dX2_init_13 : decode cX2_init 13 = .ok (.bipush 6, 2) := by decide +kernel
theorem dX2_init_15 : decode cX2_init 15 = .ok (.newarray .int, 2) := by decide +kernel
theorem dX2_init_17 : decode cX2_init 17 = .ok (.putfield 15, 3) := by decide +kernel
theorem dX2_init_20 : decode cX2_init 20 = .ok (.aload_n 0, 1) := by decide +kernel
theorem dX2_init_21 : decode cX2_init 21 = .ok (.bipush 6, 2) := by decide +kernel
theorem dX2_init_23 : decode cX2_init 23 = .ok (.newarray .int, 2) := by decide +kernel
theorem dX2_init_25 : decode cX2_init 25 = .ok (.putfield 18, 3) := by decide +kernel
theorem dX2_init_28 : decode cX2_init 28 = .ok (.aload_n 0, 1) := by decide +kernel
theorem dX2_init_29 : decode cX2_init 29 = .ok (.bipush 6, 2) := by decide +kernel
theorem dX2_init_31 : decode cX2_init 31 = .ok (.newarray .int, 2) := by decide +kernel
theorem dX2_init_33 : decode cX2_init 33 = .ok (.putfield 21, 3) := by decide +kernel
theorem dX2_init_36 : decode cX2_init 36 = .ok (.aload_n 0, 1) := by decide +kernel
theorem dX2_init_37 : decode cX2_init 37 = .ok (.bipush 6, 2) := by decide +kernel
theorem dX2_init_39 : decode cX2_init 39 = .ok (.newarray .int, 2) := by decide +kernel
theorem dX2_init_41 : decode cX2_init 41 = .ok (.putfield 24, 3) := by decide +kernel
theorem dX2_init_44 : decode cX2_init 44 = .ok (.return_, 1) := by decide +kernel
theorem dX2_become_0 : decode cX2_become 0 = .ok (.aload_n 1, 1) := by decide +kernel
theorem dX2_become_1 : decode cX2_become 1 = .ok (.ifnonnull 4, 3) := by decide +kernel
theorem dX2_become_4 : decode cX2_become 4 = .ok (.return_, 1) := by decide +kernel
theorem dX2_become_5 : decode cX2_become 5 = .ok (.aload_n 1, 1) := by decide +kernel
theorem dX2_become_6 : decode cX2_become 6 = .ok (.getfield 9, 3) := by decide +kernel
theorem dX2_become_9 : decode cX2_become 9 = .ok (.iconst 0, 1) := by decide +kernel
theorem dX2_become_10 : decode cX2_become 10 = .ok (.aload_n 0, 1) := by decide +kernel
theorem dX2_become_11 : decode cX2_become 11 = .ok (.getfield 9, 3) := by decide +kernel
theorem dX2_become_14 : decode cX2_become 14 = .ok (.iconst 0, 1) := by decide +kernel
theorem dX2_become_15 : decode cX2_become 15 = .ok (.aload_n 0, 1) := by decide +kernel
theorem dX2_become_16 : decode cX2_become 16 = .ok (.getfield 9, 3) := by decide +kernel
theorem dX2_become_19 : decode cX2_become 19 = .ok (.arraylength, 1) := by decide +kernel
theorem dX2_become_20 : decode cX2_become 20 = .ok (.invokestatic 27, 3) := by decide +kernel
theorem dX2_become_23 : decode cX2_become 23 = .ok (.aload_n 1, 1) := by decide +kernel
theorem dX2_become_24 : decode cX2_become 24 = .ok (.getfield 15, 3) := by decide +kernel
theorem dX2_become_27 : decode cX2_become 27 = .ok (.iconst 0, 1) := by decide +kernel
theorem dX2_become_28 : decode cX2_become 28 = .ok (.aload_n 0, 1) := by decide +kernel
theorem dX2_become_29 : decode cX2_become 29 = .ok (.getfield 15, 3) := by decide +kernel
theorem dX2_become_32 : decode cX2_become 32 = .ok (.iconst 0, 1) := by decide +kernel
theorem dX2_become_33 : decode cX2_become 33 = .ok (.aload_n 0, 1) := by decide +kernel
theorem dX2_become_34 : decode cX2_become 34 = .ok (.getfield 15, 3) := by decide +kernel
theorem dX2_become_37 : decode cX2_become 37 = .ok (.arraylength, 1) := by decide +kernel
theorem dX2_become_38 : decode cX2_become 38 = .ok (.invokestatic 27, 3) := by decide +kernel
theorem dX2_become_41 : decode cX2_become 41 = .ok (.aload_n 1, 1) := by decide +kernel
theorem dX2_become_42 : decode cX2_become 42 = .ok (.getfield 18, 3) := by decide +kernel
theorem dX2_become_45 : decode cX2_become 45 = .ok (.iconst 0, 1) := by decide +kernel
theorem dX2_become_46 : decode cX2_become 46 = .ok (.aload_n 0, 1) := by decide +kernel
theorem dX2_become_47 : decode cX2_become 47 = .ok (.getfield 18, 3) := by decide +kernel
theorem dX2_become_50 : decode cX2_become 50 = .ok (.iconst 0, 1) := by decide +kernel
theorem dX2_become_51 : decode cX2_become 51 = .ok (.aload_n 0, 1) := by decide +kernel
theorem dX2_become_52 : decode cX2_become 52 = .ok (.getfield 18, 3) := by decide +kernel
theorem dX2_become_55 : decode cX2_become 55 = .ok (.arraylength, 1) := by decide +kernel
theorem dX2_become_56 : decode cX2_become 56 = .ok (.invokestatic 27, 3) := by decide +kernel
theorem dX2_become_59 : decode cX2_become 59 = .ok (.aload_n 1, 1) := by decide +kernel
theorem dX2_become_60 : decode cX2_become 60 = .ok (.getfield 21, 3) := by decide +kernel
theorem dX2_become_63 : decode cX2_become 63 = .ok (.iconst 0, 1) := by decide +kernel
theorem dX2_become_64 : decode cX2_become 64 = .ok (.aload_n 0, 1) := by decide +kernel
theorem dX2_become_65 : decode cX2_become 65 = .ok (.getfield 21, 3) := by decide +kernel
theorem dX2_become_68 : decode cX2_become 68 = .ok (.iconst 0, 1) := by decide +kernel
theorem dX2_become_69 : decode cX2_become 69 = .ok (.aload_n 0, 1) := by decide +kernel
theorem dX2_become_70 : decode cX2_become 70 = .ok (.getfield 21, 3) := by decide +kernel
theorem dX2_become_73 : decode cX2_become 73 = .ok (.arraylength, 1) := by decide +kernel
theorem dX2_become_74 : decode cX2_become 74 = .ok (.invokestatic 27, 3) := by decide +kernel
theorem dX2_become_77 : decode cX2_become 77 = .ok (.aload_n 1, 1) := by decide +kernel
theorem dX2_become_78 : decode cX2_become 78 = .ok (.getfield 24, 3) := by decide +kernel
theorem dX2_become_81 : decode cX2_become 81 = .ok (.iconst 0, 1) := by decide +kernel
theorem dX2_become_82 : decode cX2_become 82 = .ok (.aload_n 0, 1) := by decide +kernel
theorem dX2_become_83 : decode cX2_become 83 = .ok (.getfield 24, 3) := by decide +kernel
theorem dX2_become_86 : decode cX2_become 86 = .ok (.iconst 0, 1) := by decide +kernel
theorem dX2_become_87 : decode cX2_become 87 = .ok (.aload_n 0, 1) := by decide +kernel
theorem dX2_become_88 : decode cX2_become 88 = .ok (.getfield 24, 3) := by decide +kernel
theorem dX2_become_91 : decode cX2_become 91 = .ok (.arraylength, 1) := by decide +kernel
theorem dX2_become_92 : decode cX2_become 92 = .ok (.invokestatic 27, 3) := by decide +kernel
theorem dX2_become_95 : decode cX2_become 95 = .ok (.aload_n 0, 1) := by decide +kernel
theorem dX2_become_96 : decode cX2_become 96 = .ok (.aload_n 1, 1) := by decide +kernel
theorem dX2_become_97 : decode cX2_become 97 = .ok (.getfield 33, 3) := by decide +kernel
theorem dX2_become_100 : decode cX2_become 100 = .ok (.putfield 33, 3) := by decide +kernel
theorem dX2_become_103 : decode cX2_become 103 = .ok (.aload_n 0, 1) := by decide +kernel
theorem dX2_become_104 : decode cX2_become 104 = .ok (.aload_n 1, 1) := by decide +kernel
theorem dX2_become_105 : decode cX2_become 105 = .ok (.getfield 37, 3) := by decide +kernel
theorem dX2_become_108 : decode cX2_become 108 = .ok (.putfield 37, 3) := by decide +kernel
theorem dX2_become_111 : decode cX2_become 111 = .ok (.aload_n 0, 1) := by decide +kernel
theorem dX2_become_112 : decode cX2_become 112 = .ok (.aload_n 1, 1) := by decide +kernel
theorem dX2_become_113 : decode cX2_become 113 = .ok (.getfield 40, 3) := by decide +kernel
theorem dX2_become_116 : decode cX2_become 116 = .ok (.putfield 40, 3) := by decide +kernel
theorem dX2_become_119 : decode cX2_become 119 = .ok (.return_, 1) := by decide +kernel
theorem dX2_has_0 : decode cX2_has 0 = .ok (.iload_n 1, 1) := by decide +kernel
theorem dX2_has_1 : decode cX2_has 1 = .ok (.ifCond .lt 15, 3) := by decide +kernel
theorem dX2_has_4 : decode cX2_has 4 = .ok (.iload_n 1, 1) := by decide +kernel
theorem dX2_has_5 : decode cX2_has 5 = .ok (.aload_n 0, 1) := by decide +kernel
theorem dX2_has_6 : decode cX2_has 6 = .ok (.getfield 37, 3) := by decide +kernel
theorem dX2_has_9 : decode cX2_has 9 = .ok (.if_icmp .ge 7, 3) := by decide +kernel
theorem dX2_has_12 : decode cX2_has 12 = .ok (.iconst 1, 1) := by decide +kernel
theorem dX2_has_13 : decode cX2_has 13 = .ok (.goto 4, 3) := by decide +kernel
theorem dX2_has_16 : decode cX2_has 16 = .ok (.iconst 0, 1) := by decide +kernel
theorem dX2_has_17 : decode cX2_has 17 = .ok (.ireturn, 1) := by decide +kernel
set_option maxRecDepth 20000 in
theorem ggX2_add_X7_put : GoodIn wsX2_add wsX7_put := goodIn_r _ [8] rfl (by decide +kernel)
set_option maxRecDepth 20000 in
theorem gX2_add_X7_put_n44 : GoodIn wsX2_add (wsX7_put) := ggX2_add_X7_put
theorem dX2_add_0 : decode cX2_add 0 = .ok (.aload_n 0, 1) := by decide +kernel
theorem dX2_add_1 : decode cX2_add 1 = .ok (.getfield 37, 3) := by decide +kernel
theorem dX2_add_4 : decode cX2_add 4 = .ok (.bipush 6, 2) := by decide +kernel
theorem dX2_add_6 : decode cX2_add 6 = .ok (.if_icmp .lt 5, 3) := by decide +kernel
theorem dX2_add_9 : decode cX2_add 9 = .ok (.iconst 0, 1) := by decide +kernel
theorem dX2_add_10 : decode cX2_add 10 = .ok (.ireturn, 1) := by decide +kernel
theorem dX2_add_11 : decode cX2_add 11 = .ok (.aload_n 0, 1) := by decide +kernel
theorem dX2_add_12 : decode cX2_add 12 = .ok (.getfield 15, 3) := by decide +kernel
theorem dX2_add_15 : decode cX2_add 15 = .ok (.aload_n 0, 1) := by decide +kernel
theorem dX2_add_16 : decode cX2_add 16 = .ok (.getfield 37, 3) := by decide +kernel
theorem dX2_add_19 : decode cX2_add 19 = .ok (.iload_n 1, 1) := by decide +kernel
theorem dX2_add_20 : decode cX2_add 20 = .ok (.invokestatic 44, 3) := by decide +kernel
theorem dX2_add_23 : decode cX2_add 23 = .ok (.aload_n 0, 1) := by decide +kernel
theorem dX2_add_24 : decode cX2_add 24 = .ok (.getfield 18, 3) := by decide +kernel
theorem dX2_add_27 : decode cX2_add 27 = .ok (.aload_n 0, 1) := by decide +kernel
theorem dX2_add_28 : decode cX2_add 28 = .ok (.getfield 37, 3) := by decide +kernel
theorem dX2_add_31 : decode cX2_add 31 = .ok (.iload_n 2, 1) := by decide +kernel
theorem dX2_add_32 : decode cX2_add 32 = .ok (.invokestatic 44, 3) := by decide +kernel
theorem dX2_add_35 : decode cX2_add 35 = .ok (.aload_n 0, 1) := by decide +kernel
theorem dX2_add_36 : decode cX2_add 36 = .ok (.getfield 21, 3) := by decide +kernel
theorem dX2_add_39 : decode cX2_add 39 = .ok (.aload_n 0, 1) := by decide +kernel
theorem dX2_add_40 : decode cX2_add 40 = .ok (.getfield 37, 3) := by decide +kernel
theorem dX2_add_43 : decode cX2_add 43 = .ok (.iload_n 3, 1) := by decide +kernel
theorem dX2_add_44 : decode cX2_add 44 = .ok (.invokestatic 44, 3) := by decide +kernel
theorem dX2_add_47 : decode cX2_add 47 = .ok (.aload_n 0, 1) := by decide +kernel
theorem dX2_add_48 : decode cX2_add 48 = .ok (.getfield 24, 3) := by decide +kernel
theorem dX2_add_51 : decode cX2_add 51 = .ok (.aload_n 0, 1) := by decide +kernel
theorem dX2_add_52 : decode cX2_add 52 = .ok (.getfield 37, 3) := by decide +kernel
theorem dX2_add_55 : decode cX2_add 55 = .ok (.iconst 0, 1) := by decide +kernel
theorem dX2_add_56 : decode cX2_add 56 = .ok (.invokestatic 44, 3) := by decide +kernel
theorem dX2_add_59 : decode cX2_add 59 = .ok (.aload_n 0, 1) := by decide +kernel
theorem dX2_add_60 : decode cX2_add 60 = .ok (.dup, 1) := by decide +kernel
theorem dX2_add_61 : decode cX2_add 61 = .ok (.getfield 37, 3) := by decide +kernel
theorem dX2_add_64 : decode cX2_add 64 = .ok (.iconst 1, 1) := by decide +kernel
theorem dX2_add_65 : decode cX2_add 65 = .ok (.iadd, 1) := by decide +kernel
theorem dX2_add_66 : decode cX2_add 66 = .ok (.putfield 37, 3) := by decide +kernel
theorem dX2_add_69 : decode cX2_add 69 = .ok (.iconst 1, 1) := by decide +kernel
theorem dX2_add_70 : decode cX2_add 70 = .ok (.ireturn, 1) := by decide +kernel
set_option maxRecDepth 20000 in
theorem ggX2_shakenCount_X7_at : GoodIn wsX2_shakenCount wsX7_at := goodIn_r _ [5] rfl (by decide +kernel)
set_option maxRecDepth 20000 in
theorem gX2_shakenCount_X7_at_n48 : GoodIn wsX2_shakenCount (wsX7_at) := ggX2_shakenCount_X7_at
theorem dX2_shakenCount_0 : decode cX2_shakenCount 0 = .ok (.iconst 0, 1) := by decide +kernel
theorem dX2_shakenCount_1 : decode cX2_shakenCount 1 = .ok (.istore_n 1, 1) := by decide +kernel
theorem dX2_shakenCount_2 : decode cX2_shakenCount 2 = .ok (.iconst 0, 1) := by decide +kernel
theorem dX2_shakenCount_3 : decode cX2_shakenCount 3 = .ok (.istore_n 2, 1) := by decide +kernel
theorem dX2_shakenCount_4 : decode cX2_shakenCount 4 = .ok (.iload_n 2, 1) := by decide +kernel
theorem dX2_shakenCount_5 : decode cX2_shakenCount 5 = .ok (.aload_n 0, 1) := by decide +kernel
theorem dX2_shakenCount_6 : decode cX2_shakenCount 6 = .ok (.getfield 37, 3) := by decide +kernel
theorem dX2_shakenCount_9 : decode cX2_shakenCount 9 = .ok (.if_icmp .ge 20, 3) := by decide +kernel
theorem dX2_shakenCount_12 : decode cX2_shakenCount 12 = .ok (.iload_n 1, 1) := by decide +kernel
theorem dX2_shakenCount_13 : decode cX2_shakenCount 13 = .ok (.aload_n 0, 1) := by decide +kernel
theorem dX2_shakenCount_14 : decode cX2_shakenCount 14 = .ok (.getfield 24, 3) := by decide +kernel
theorem dX2_shakenCount_17 : decode cX2_shakenCount 17 = .ok (.iload_n 2, 1) := by decide +kernel
theorem dX2_shakenCount_18 : decode cX2_shakenCount 18 = .ok (.invokestatic 48, 3) := by decide +kernel
theorem dX2_shakenCount_21 : decode cX2_shakenCount 21 = .ok (.iadd, 1) := by decide +kernel
theorem dX2_shakenCount_22 : decode cX2_shakenCount 22 = .ok (.istore_n 1, 1) := by decide +kernel
theorem dX2_shakenCount_23 : decode cX2_shakenCount 23 = .ok (.iinc 2 1, 3) := by decide +kernel
theorem dX2_shakenCount_26 : decode cX2_shakenCount 26 = .ok (.goto (-22), 3) := by decide +kernel
theorem dX2_shakenCount_29 : decode cX2_shakenCount 29 = .ok (.iload_n 1, 1) := by decide +kernel
theorem dX2_shakenCount_30 : decode cX2_shakenCount 30 = .ok (.ireturn, 1) := by decide +kernel
set_option maxRecDepth 20000 in
theorem ggX2_unshaken_X7_at : GoodIn wsX2_unshaken wsX7_at := goodIn_r _ [5] rfl (by decide +kernel)
set_option maxRecDepth 20000 in
theorem gX2_unshaken_X7_at_n48 : GoodIn wsX2_unshaken (wsX7_at) := ggX2_unshaken_X7_at
theorem dX2_unshaken_0 : decode cX2_unshaken 0 = .ok (.iconst 0, 1) := by decide +kernel
theorem dX2_unshaken_1 : decode cX2_unshaken 1 = .ok (.istore_n 1, 1) := by decide +kernel
theorem dX2_unshaken_2 : decode cX2_unshaken 2 = .ok (.iconst 0, 1) := by decide +kernel
theorem dX2_unshaken_3 : decode cX2_unshaken 3 = .ok (.istore_n 2, 1) := by decide +kernel
theorem dX2_unshaken_4 : decode cX2_unshaken 4 = .ok (.iload_n 2, 1) := by decide +kernel
theorem dX2_unshaken_5 : decode cX2_unshaken 5 = .ok (.aload_n 0, 1) := by decide +kernel
theorem dX2_unshaken_6 : decode cX2_unshaken 6 = .ok (.getfield 37, 3) := by decide +kernel
theorem dX2_unshaken_9 : decode cX2_unshaken 9 = .ok (.if_icmp .ge 30, 3) := by decide +kernel
theorem dX2_unshaken_12 : decode cX2_unshaken 12 = .ok (.iload_n 1, 1) := by decide +kernel
theorem dX2_unshaken_13 : decode cX2_unshaken 13 = .ok (.aload_n 0, 1) := by decide +kernel
theorem dX2_unshaken_14 : decode cX2_unshaken 14 = .ok (.getfield 24, 3) := by decide +kernel
theorem dX2_unshaken_17 : decode cX2_unshaken 17 = .ok (.iload_n 2, 1) := by decide +kernel
theorem dX2_unshaken_18 : decode cX2_unshaken 18 = .ok (.invokestatic 48, 3) := by decide +kernel
theorem dX2_unshaken_21 : decode cX2_unshaken 21 = .ok (.ifCond .ne 9, 3) := by decide +kernel
theorem dX2_unshaken_24 : decode cX2_unshaken 24 = .ok (.iconst 1, 1) := by decide +kernel
theorem dX2_unshaken_25 : decode cX2_unshaken 25 = .ok (.iload_n 2, 1) := by decide +kernel
theorem dX2_unshaken_26 : decode cX2_unshaken 26 = .ok (.ishl, 1) := by decide +kernel
theorem dX2_unshaken_27 : decode cX2_unshaken 27 = .ok (.goto 4, 3) := by decide +kernel
theorem dX2_unshaken_30 : decode cX2_unshaken 30 = .ok (.iconst 0, 1) := by decide +kernel
theorem dX2_unshaken_31 : decode cX2_unshaken 31 = .ok (.ior, 1) := by decide +kernel
theorem dX2_unshaken_32 : decode cX2_unshaken 32 = .ok (.istore_n 1, 1) := by decide +kernel
theorem dX2_unshaken_33 : decode cX2_unshaken 33 = .ok (.iinc 2 1, 3) := by decide +kernel
theorem dX2_unshaken_36 : decode cX2_unshaken 36 = .ok (.goto (-32), 3) := by decide +kernel
theorem dX2_unshaken_39 : decode cX2_unshaken 39 = .ok (.iload_n 1, 1) := by decide +kernel
theorem dX2_unshaken_40 : decode cX2_unshaken 40 = .ok (.ireturn, 1) := by decide +kernel
set_option maxRecDepth 20000 in
theorem ggX2_inStreet_X7_at : GoodIn wsX2_inStreet wsX7_at := goodIn_r _ [5] rfl (by decide +kernel)
set_option maxRecDepth 20000 in
theorem gX2_inStreet_X7_at_n48 : GoodIn wsX2_inStreet (wsX7_at) := ggX2_inStreet_X7_at
theorem dX2_inStreet_0 : decode cX2_inStreet 0 = .ok (.iconst 0, 1) := by decide +kernel
theorem dX2_inStreet_1 : decode cX2_inStreet 1 = .ok (.istore_n 2, 1) := by decide +kernel
theorem dX2_inStreet_2 : decode cX2_inStreet 2 = .ok (.iconst 0, 1) := by decide +kernel
theorem dX2_inStreet_3 : decode cX2_inStreet 3 = .ok (.istore_n 3, 1) := by decide +kernel
theorem dX2_inStreet_4 : decode cX2_inStreet 4 = .ok (.iload_n 3, 1) := by decide +kernel
theorem dX2_inStreet_5 : decode cX2_inStreet 5 = .ok (.aload_n 0, 1) := by decide +kernel
theorem dX2_inStreet_6 : decode cX2_inStreet 6 = .ok (.getfield 37, 3) := by decide +kernel
theorem dX2_inStreet_9 : decode cX2_inStreet 9 = .ok (.if_icmp .ge 31, 3) := by decide +kernel
theorem dX2_inStreet_12 : decode cX2_inStreet 12 = .ok (.iload_n 2, 1) := by decide +kernel
theorem dX2_inStreet_13 : decode cX2_inStreet 13 = .ok (.aload_n 0, 1) := by decide +kernel
theorem dX2_inStreet_14 : decode cX2_inStreet 14 = .ok (.getfield 21, 3) := by decide +kernel
theorem dX2_inStreet_17 : decode cX2_inStreet 17 = .ok (.iload_n 3, 1) := by decide +kernel
theorem dX2_inStreet_18 : decode cX2_inStreet 18 = .ok (.invokestatic 48, 3) := by decide +kernel
theorem dX2_inStreet_21 : decode cX2_inStreet 21 = .ok (.iload_n 1, 1) := by decide +kernel
theorem dX2_inStreet_22 : decode cX2_inStreet 22 = .ok (.if_icmp .ne 9, 3) := by decide +kernel
theorem dX2_inStreet_25 : decode cX2_inStreet 25 = .ok (.iconst 1, 1) := by decide +kernel
theorem dX2_inStreet_26 : decode cX2_inStreet 26 = .ok (.iload_n 3, 1) := by decide +kernel
theorem dX2_inStreet_27 : decode cX2_inStreet 27 = .ok (.ishl, 1) := by decide +kernel
theorem dX2_inStreet_28 : decode cX2_inStreet 28 = .ok (.goto 4, 3) := by decide +kernel
theorem dX2_inStreet_31 : decode cX2_inStreet 31 = .ok (.iconst 0, 1) := by decide +kernel
theorem dX2_inStreet_32 : decode cX2_inStreet 32 = .ok (.ior, 1) := by decide +kernel
theorem dX2_inStreet_33 : decode cX2_inStreet 33 = .ok (.istore_n 2, 1) := by decide +kernel
theorem dX2_inStreet_34 : decode cX2_inStreet 34 = .ok (.iinc 3 1, 3) := by decide +kernel
theorem dX2_inStreet_37 : decode cX2_inStreet 37 = .ok (.goto (-33), 3) := by decide +kernel
theorem dX2_inStreet_40 : decode cX2_inStreet 40 = .ok (.iload_n 2, 1) := by decide +kernel
theorem dX2_inStreet_41 : decode cX2_inStreet 41 = .ok (.ireturn, 1) := by decide +kernel
set_option maxRecDepth 20000 in
theorem ggX2_showerLength_X2_rainAt : GoodIn wsX2_showerLength wsX2_rainAt := goodIn_r _ [5, 6, 7, 8, 9, 10, 11, 12, 13, 14, 15, 16, 17] rfl (by decide +kernel)
set_option maxRecDepth 20000 in
theorem gX2_showerLength_X2_rainAt : GoodIn wsX2_showerLength (wsV RX2 52 RX2 yX2_rainAt wsX2_rainAt) := goodIn_app (goodIn_of _ (by decide +kernel)) ggX2_showerLength_X2_rainAt
theorem dX2_showerLength_0 : decode cX2_showerLength 0 = .ok (.iconst 0, 1) := by decide +kernel
theorem dX2_showerLength_1 : decode cX2_showerLength 1 = .ok (.istore_n 2, 1) := by decide +kernel
theorem dX2_showerLength_2 : decode cX2_showerLength 2 = .ok (.iconst 0, 1) := by decide +kernel
theorem dX2_showerLength_3 : decode cX2_showerLength 3 = .ok (.istore_n 3, 1) := by decide +kernel
theorem dX2_showerLength_4 : decode cX2_showerLength 4 = .ok (.iconst 0, 1) := by decide +kernel
theorem dX2_showerLength_5 : decode cX2_showerLength 5 = .ok (.istore 4, 2) := by decide +kernel
theorem dX2_showerLength_7 : decode cX2_showerLength 7 = .ok (.iload 4, 2) := by decide +kernel
theorem dX2_showerLength_9 : decode cX2_showerLength 9 = .ok (.bipush 24, 2) := by decide +kernel
theorem dX2_showerLength_11 : decode cX2_showerLength 11 = .ok (.if_icmp .ge 38, 3) := by decide +kernel
theorem dX2_showerLength_14 : decode cX2_showerLength 14 = .ok (.aload_n 0, 1) := by decide +kernel
theorem dX2_showerLength_15 : decode cX2_showerLength 15 = .ok (.iload_n 1, 1) := by decide +kernel
theorem dX2_showerLength_16 : decode cX2_showerLength 16 = .ok (.iload 4, 2) := by decide +kernel
theorem dX2_showerLength_18 : decode cX2_showerLength 18 = .ok (.invokevirtual 52, 3) := by decide +kernel
theorem dX2_showerLength_21 : decode cX2_showerLength 21 = .ok (.ifCond .le 9, 3) := by decide +kernel
theorem dX2_showerLength_24 : decode cX2_showerLength 24 = .ok (.iload_n 3, 1) := by decide +kernel
theorem dX2_showerLength_25 : decode cX2_showerLength 25 = .ok (.iconst 1, 1) := by decide +kernel
theorem dX2_showerLength_26 : decode cX2_showerLength 26 = .ok (.iadd, 1) := by decide +kernel
theorem dX2_showerLength_27 : decode cX2_showerLength 27 = .ok (.goto 4, 3) := by decide +kernel
theorem dX2_showerLength_30 : decode cX2_showerLength 30 = .ok (.iconst 0, 1) := by decide +kernel
theorem dX2_showerLength_31 : decode cX2_showerLength 31 = .ok (.istore_n 3, 1) := by decide +kernel
theorem dX2_showerLength_32 : decode cX2_showerLength 32 = .ok (.iload_n 3, 1) := by decide +kernel
theorem dX2_showerLength_33 : decode cX2_showerLength 33 = .ok (.iload_n 2, 1) := by decide +kernel
theorem dX2_showerLength_34 : decode cX2_showerLength 34 = .ok (.if_icmp .le 7, 3) := by decide +kernel
theorem dX2_showerLength_37 : decode cX2_showerLength 37 = .ok (.iload_n 3, 1) := by decide +kernel
theorem dX2_showerLength_38 : decode cX2_showerLength 38 = .ok (.goto 4, 3) := by decide +kernel
theorem dX2_showerLength_41 : decode cX2_showerLength 41 = .ok (.iload_n 2, 1) := by decide +kernel
theorem dX2_showerLength_42 : decode cX2_showerLength 42 = .ok (.istore_n 2, 1) := by decide +kernel
theorem dX2_showerLength_43 : decode cX2_showerLength 43 = .ok (.iinc 4 1, 3) := by decide +kernel
theorem dX2_showerLength_46 : decode cX2_showerLength 46 = .ok (.goto (-39), 3) := by decide +kernel
theorem dX2_showerLength_49 : decode cX2_showerLength 49 = .ok (.iload_n 2, 1) := by decide +kernel
theorem dX2_showerLength_50 : decode cX2_showerLength 50 = .ok (.ireturn, 1) := by decide +kernel
set_option maxRecDepth 20000 in
theorem ggX2_showerStart_X2_showerLength : GoodIn wsX2_showerStart wsX2_showerLength := goodIn_r _ [5, 6, 7, 8, 4, 9, 10, 11, 12, 13, 14, 15, 16, 17, 18, 19, 20, 21] rfl (by decide +kernel)
set_option maxRecDepth 20000 in
theorem gX2_showerStart_X2_showerLength : GoodIn wsX2_showerStart (wsV RX2 56 RX2 yX2_showerLength wsX2_showerLength) := goodIn_app (goodIn_of _ (by decide +kernel)) ggX2_showerStart_X2_showerLength
set_option maxRecDepth 20000 in
theorem ggX2_showerStart_X2_rainAt : GoodIn wsX2_showerStart wsX2_rainAt := goodIn_r _ [9, 10, 11, 12, 13, 14, 15, 16, 17, 18, 19, 20, 21] rfl (by decide +kernel)
set_option maxRecDepth 20000 in
theorem gX2_showerStart_X2_rainAt : GoodIn wsX2_showerStart (wsV RX2 52 RX2 yX2_rainAt wsX2_rainAt) := goodIn_app (goodIn_of _ (by decide +kernel)) ggX2_showerStart_X2_rainAt
theorem dX2_showerStart_0 : decode cX2_showerStart 0 = .ok (.aload_n 0, 1) := by decide +kernel
theorem dX2_showerStart_1 : decode cX2_showerStart 1 = .ok (.iload_n 1, 1) := by decide +kernel
theorem dX2_showerStart_2 : decode cX2_showerStart 2 = .ok (.invokevirtual 56, 3) := by decide +kernel
theorem dX2_showerStart_5 : decode cX2_showerStart 5 = .ok (.istore_n 2, 1) := by decide +kernel
theorem dX2_showerStart_6 : decode cX2_showerStart 6 = .ok (.iconst 0, 1) := by decide +kernel
theorem dX2_showerStart_7 : decode cX2_showerStart 7 = .ok (.istore_n 3, 1) := by decide +kernel
theorem dX2_showerStart_8 : decode cX2_showerStart 8 = .ok (.iconst 0, 1) := by decide +kernel
theorem dX2_showerStart_9 : decode cX2_showerStart 9 = .ok (.istore 4, 2) := by decide +kernel
theorem dX2_showerStart_11 : decode cX2_showerStart 11 = .ok (.iload 4, 2) := by decide +kernel
theorem dX2_showerStart_13 : decode cX2_showerStart 13 = .ok (.bipush 24, 2) := by decide +kernel
theorem dX2_showerStart_15 : decode cX2_showerStart 15 = .ok (.if_icmp .ge 43, 3) := by decide +kernel
theorem dX2_showerStart_18 : decode cX2_showerStart 18 = .ok (.aload_n 0, 1) := by decide +kernel
theorem dX2_showerStart_19 : decode cX2_showerStart 19 = .ok (.iload_n 1, 1) := by decide +kernel
theorem dX2_showerStart_20 : decode cX2_showerStart 20 = .ok (.iload 4, 2) := by decide +kernel
theorem dX2_showerStart_22 : decode cX2_showerStart 22 = .ok (.invokevirtual 52, 3) := by decide +kernel
theorem dX2_showerStart_25 : decode cX2_showerStart 25 = .ok (.ifCond .le 9, 3) := by decide +kernel
theorem dX2_showerStart_28 : decode cX2_showerStart 28 = .ok (.iload_n 3, 1) := by decide +kernel
theorem dX2_showerStart_29 : decode cX2_showerStart 29 = .ok (.iconst 1, 1) := by decide +kernel
theorem dX2_showerStart_30 : decode cX2_showerStart 30 = .ok (.iadd, 1) := by decide +kernel
theorem dX2_showerStart_31 : decode cX2_showerStart 31 = .ok (.goto 4, 3) := by decide +kernel
theorem dX2_showerStart_34 : decode cX2_showerStart 34 = .ok (.iconst 0, 1) := by decide +kernel
theorem dX2_showerStart_35 : decode cX2_showerStart 35 = .ok (.istore_n 3, 1) := by decide +kernel
theorem dX2_showerStart_36 : decode cX2_showerStart 36 = .ok (.iload_n 3, 1) := by decide +kernel
theorem dX2_showerStart_37 : decode cX2_showerStart 37 = .ok (.ifCond .le 15, 3) := by decide +kernel
theorem dX2_showerStart_40 : decode cX2_showerStart 40 = .ok (.iload_n 3, 1) := by decide +kernel
theorem dX2_showerStart_41 : decode cX2_showerStart 41 = .ok (.iload_n 2, 1) := by decide +kernel
theorem dX2_showerStart_42 : decode cX2_showerStart 42 = .ok (.if_icmp .ne 10, 3) := by decide +kernel
theorem dX2_showerStart_45 : decode cX2_showerStart 45 = .ok (.iload 4, 2) := by decide +kernel
theorem dX2_showerStart_47 : decode cX2_showerStart 47 = .ok (.iload_n 2, 1) := by decide +kernel
theorem dX2_showerStart_48 : decode cX2_showerStart 48 = .ok (.isub, 1) := by decide +kernel
theorem dX2_showerStart_49 : decode cX2_showerStart 49 = .ok (.iconst 1, 1) := by decide +kernel
theorem dX2_showerStart_50 : decode cX2_showerStart 50 = .ok (.iadd, 1) := by decide +kernel
theorem dX2_showerStart_51 : decode cX2_showerStart 51 = .ok (.ireturn, 1) := by decide +kernel
theorem dX2_showerStart_52 : decode cX2_showerStart 52 = .ok (.iinc 4 1, 3) := by decide +kernel
theorem dX2_showerStart_55 : decode cX2_showerStart 55 = .ok (.goto (-44), 3) := by decide +kernel
theorem dX2_showerStart_58 : decode cX2_showerStart 58 = .ok (.iconst (-1), 1) := by decide +kernel
theorem dX2_showerStart_59 : decode cX2_showerStart 59 = .ok (.ireturn, 1) := by decide +kernel
set_option maxRecDepth 20000 in
theorem ggX2_wetHours_X2_rainAt : GoodIn wsX2_wetHours wsX2_rainAt := goodIn_r _ [5, 6, 7, 8, 9, 10, 11, 12, 13, 14, 15, 16, 17] rfl (by decide +kernel)
set_option maxRecDepth 20000 in
theorem gX2_wetHours_X2_rainAt : GoodIn wsX2_wetHours (wsV RX2 52 RX2 yX2_rainAt wsX2_rainAt) := goodIn_app (goodIn_of _ (by decide +kernel)) ggX2_wetHours_X2_rainAt
theorem dX2_wetHours_0 : decode cX2_wetHours 0 = .ok (.iconst 0, 1) := by decide +kernel
theorem dX2_wetHours_1 : decode cX2_wetHours 1 = .ok (.istore_n 2, 1) := by decide +kernel
theorem dX2_wetHours_2 : decode cX2_wetHours 2 = .ok (.iconst 0, 1) := by decide +kernel
theorem dX2_wetHours_3 : decode cX2_wetHours 3 = .ok (.istore_n 3, 1) := by decide +kernel
theorem dX2_wetHours_4 : decode cX2_wetHours 4 = .ok (.iload_n 3, 1) := by decide +kernel
theorem dX2_wetHours_5 : decode cX2_wetHours 5 = .ok (.bipush 24, 2) := by decide +kernel
theorem dX2_wetHours_7 : decode cX2_wetHours 7 = .ok (.if_icmp .ge 26, 3) := by decide +kernel
theorem dX2_wetHours_10 : decode cX2_wetHours 10 = .ok (.iload_n 2, 1) := by decide +kernel
theorem dX2_wetHours_11 : decode cX2_wetHours 11 = .ok (.aload_n 0, 1) := by decide +kernel
theorem dX2_wetHours_12 : decode cX2_wetHours 12 = .ok (.iload_n 1, 1) := by decide +kernel
theorem dX2_wetHours_13 : decode cX2_wetHours 13 = .ok (.iload_n 3, 1) := by decide +kernel
theorem dX2_wetHours_14 : decode cX2_wetHours 14 = .ok (.invokevirtual 52, 3) := by decide +kernel
theorem dX2_wetHours_17 : decode cX2_wetHours 17 = .ok (.ifCond .le 7, 3) := by decide +kernel
theorem dX2_wetHours_20 : decode cX2_wetHours 20 = .ok (.iconst 1, 1) := by decide +kernel
theorem dX2_wetHours_21 : decode cX2_wetHours 21 = .ok (.goto 4, 3) := by decide +kernel
theorem dX2_wetHours_24 : decode cX2_wetHours 24 = .ok (.iconst 0, 1) := by decide +kernel
theorem dX2_wetHours_25 : decode cX2_wetHours 25 = .ok (.iadd, 1) := by decide +kernel
theorem dX2_wetHours_26 : decode cX2_wetHours 26 = .ok (.istore_n 2, 1) := by decide +kernel
theorem dX2_wetHours_27 : decode cX2_wetHours 27 = .ok (.iinc 3 1, 3) := by decide +kernel
theorem dX2_wetHours_30 : decode cX2_wetHours 30 = .ok (.goto (-26), 3) := by decide +kernel
theorem dX2_wetHours_33 : decode cX2_wetHours 33 = .ok (.iload_n 2, 1) := by decide +kernel
theorem dX2_wetHours_34 : decode cX2_wetHours 34 = .ok (.ireturn, 1) := by decide +kernel
set_option maxRecDepth 20000 in
theorem ggX2_allRain_X2_rainAt : GoodIn wsX2_allRain wsX2_rainAt := goodIn_r _ [5, 6, 7, 8, 9, 10, 11, 12, 13, 14, 15, 16, 17] rfl (by decide +kernel)
set_option maxRecDepth 20000 in
theorem gX2_allRain_X2_rainAt : GoodIn wsX2_allRain (wsV RX2 52 RX2 yX2_rainAt wsX2_rainAt) := goodIn_app (goodIn_of _ (by decide +kernel)) ggX2_allRain_X2_rainAt
theorem dX2_allRain_0 : decode cX2_allRain 0 = .ok (.iconst 0, 1) := by decide +kernel
theorem dX2_allRain_1 : decode cX2_allRain 1 = .ok (.istore_n 2, 1) := by decide +kernel
theorem dX2_allRain_2 : decode cX2_allRain 2 = .ok (.iconst 0, 1) := by decide +kernel
theorem dX2_allRain_3 : decode cX2_allRain 3 = .ok (.istore_n 3, 1) := by decide +kernel
theorem dX2_allRain_4 : decode cX2_allRain 4 = .ok (.iload_n 3, 1) := by decide +kernel
theorem dX2_allRain_5 : decode cX2_allRain 5 = .ok (.bipush 24, 2) := by decide +kernel
theorem dX2_allRain_7 : decode cX2_allRain 7 = .ok (.if_icmp .ge 18, 3) := by decide +kernel
theorem dX2_allRain_10 : decode cX2_allRain 10 = .ok (.iload_n 2, 1) := by decide +kernel
theorem dX2_allRain_11 : decode cX2_allRain 11 = .ok (.aload_n 0, 1) := by decide +kernel
theorem dX2_allRain_12 : decode cX2_allRain 12 = .ok (.iload_n 1, 1) := by decide +kernel
theorem dX2_allRain_13 : decode cX2_allRain 13 = .ok (.iload_n 3, 1) := by decide +kernel
theorem dX2_allRain_14 : decode cX2_allRain 14 = .ok (.invokevirtual 52, 3) := by decide +kernel
theorem dX2_allRain_17 : decode cX2_allRain 17 = .ok (.iadd, 1) := by decide +kernel
theorem dX2_allRain_18 : decode cX2_allRain 18 = .ok (.istore_n 2, 1) := by decide +kernel
theorem dX2_allRain_19 : decode cX2_allRain 19 = .ok (.iinc 3 1, 3) := by decide +kernel
theorem dX2_allRain_22 : decode cX2_allRain 22 = .ok (.goto (-18), 3) := by decide +kernel
theorem dX2_allRain_25 : decode cX2_allRain 25 = .ok (.iload_n 2, 1) := by decide +kernel
theorem dX2_allRain_26 : decode cX2_allRain 26 = .ok (.ireturn, 1) := by decide +kernel
set_option maxRecDepth 20000 in
theorem ggX2_shutHours_X2_rainAt : GoodIn wsX2_shutHours wsX2_rainAt := goodIn_r _ [5, 6, 7, 8, 9, 10, 11, 12, 13, 14, 15, 16, 17] rfl (by decide +kernel)
set_option maxRecDepth 20000 in
theorem gX2_shutHours_X2_rainAt : GoodIn wsX2_shutHours (wsV RX2 52 RX2 yX2_rainAt wsX2_rainAt) := goodIn_app (goodIn_of _ (by decide +kernel)) ggX2_shutHours_X2_rainAt
theorem dX2_shutHours_0 : decode cX2_shutHours 0 = .ok (.iconst 0, 1) := by decide +kernel
theorem dX2_shutHours_1 : decode cX2_shutHours 1 = .ok (.istore_n 1, 1) := by decide +kernel
theorem dX2_shutHours_2 : decode cX2_shutHours 2 = .ok (.iconst 0, 1) := by decide +kernel
theorem dX2_shutHours_3 : decode cX2_shutHours 3 = .ok (.istore_n 2, 1) := by decide +kernel
theorem dX2_shutHours_4 : decode cX2_shutHours 4 = .ok (.iload_n 2, 1) := by decide +kernel
theorem dX2_shutHours_5 : decode cX2_shutHours 5 = .ok (.bipush 24, 2) := by decide +kernel
theorem dX2_shutHours_7 : decode cX2_shutHours 7 = .ok (.if_icmp .ge 37, 3) := by decide +kernel
theorem dX2_shutHours_10 : decode cX2_shutHours 10 = .ok (.iload_n 1, 1) := by decide +kernel
theorem dX2_shutHours_11 : decode cX2_shutHours 11 = .ok (.aload_n 0, 1) := by decide +kernel
theorem dX2_shutHours_12 : decode cX2_shutHours 12 = .ok (.iconst 0, 1) := by decide +kernel
theorem dX2_shutHours_13 : decode cX2_shutHours 13 = .ok (.iload_n 2, 1) := by decide +kernel
theorem dX2_shutHours_14 : decode cX2_shutHours 14 = .ok (.invokevirtual 52, 3) := by decide +kernel
theorem dX2_shutHours_17 : decode cX2_shutHours 17 = .ok (.ifCond .ne 18, 3) := by decide +kernel
theorem dX2_shutHours_20 : decode cX2_shutHours 20 = .ok (.aload_n 0, 1) := by decide +kernel
theorem dX2_shutHours_21 : decode cX2_shutHours 21 = .ok (.iconst 1, 1) := by decide +kernel
theorem dX2_shutHours_22 : decode cX2_shutHours 22 = .ok (.iload_n 2, 1) := by decide +kernel
theorem dX2_shutHours_23 : decode cX2_shutHours 23 = .ok (.invokevirtual 52, 3) := by decide +kernel
theorem dX2_shutHours_26 : decode cX2_shutHours 26 = .ok (.ifCond .ne 9, 3) := by decide +kernel
theorem dX2_shutHours_29 : decode cX2_shutHours 29 = .ok (.iconst 1, 1) := by decide +kernel
theorem dX2_shutHours_30 : decode cX2_shutHours 30 = .ok (.iload_n 2, 1) := by decide +kernel
theorem dX2_shutHours_31 : decode cX2_shutHours 31 = .ok (.ishl, 1) := by decide +kernel
theorem dX2_shutHours_32 : decode cX2_shutHours 32 = .ok (.goto 4, 3) := by decide +kernel
theorem dX2_shutHours_35 : decode cX2_shutHours 35 = .ok (.iconst 0, 1) := by decide +kernel
theorem dX2_shutHours_36 : decode cX2_shutHours 36 = .ok (.ior, 1) := by decide +kernel
theorem dX2_shutHours_37 : decode cX2_shutHours 37 = .ok (.istore_n 1, 1) := by decide +kernel
theorem dX2_shutHours_38 : decode cX2_shutHours 38 = .ok (.iinc 2 1, 3) := by decide +kernel
theorem dX2_shutHours_41 : decode cX2_shutHours 41 = .ok (.goto (-37), 3) := by decide +kernel
theorem dX2_shutHours_44 : decode cX2_shutHours 44 = .ok (.iload_n 1, 1) := by decide +kernel
theorem dX2_shutHours_45 : decode cX2_shutHours 45 = .ok (.ireturn, 1) := by decide +kernel
set_option maxRecDepth 20000 in
theorem ggX2_rainAt_X7_at : GoodIn wsX2_rainAt wsX7_at := goodIn_r _ [4] rfl (by decide +kernel)
set_option maxRecDepth 20000 in
theorem gX2_rainAt_X7_at_n48 : GoodIn wsX2_rainAt (wsX7_at) := ggX2_rainAt_X7_at
theorem dX2_rainAt_0 : decode cX2_rainAt 0 = .ok (.aload_n 0, 1) := by decide +kernel
theorem dX2_rainAt_1 : decode cX2_rainAt 1 = .ok (.getfield 9, 3) := by decide +kernel
theorem dX2_rainAt_4 : decode cX2_rainAt 4 = .ok (.iload_n 1, 1) := by decide +kernel
theorem dX2_rainAt_5 : decode cX2_rainAt 5 = .ok (.bipush 24, 2) := by decide +kernel
theorem dX2_rainAt_7 : decode cX2_rainAt 7 = .ok (.imul, 1) := by decide +kernel
theorem dX2_rainAt_8 : decode cX2_rainAt 8 = .ok (.iload_n 2, 1) := by decide +kernel
theorem dX2_rainAt_9 : decode cX2_rainAt 9 = .ok (.iadd, 1) := by decide +kernel
theorem dX2_rainAt_10 : decode cX2_rainAt 10 = .ok (.invokestatic 48, 3) := by decide +kernel
theorem dX2_rainAt_13 : decode cX2_rainAt 13 = .ok (.ireturn, 1) := by decide +kernel
set_option maxRecDepth 20000 in
theorem ggX3_init_X0_init : GoodIn wsX3_init wsX0_init := goodIn_r _ [16, 17, 2, 3, 8, 18, 19, 20, 21, 22] rfl (by decide +kernel)
set_option maxRecDepth 20000 in
theorem gX3_init_X0_init_n11 : GoodIn wsX3_init (wsX0_init) := ggX3_init_X0_init
theorem dX3_init_0 : decode cX3_init 0 = .ok (.aload_n 0, 1) := by decide +kernel
theorem dX3_init_1 : decode cX3_init 1 = .ok (.invokespecial 3, 3) := by decide +kernel
theorem dX3_init_4 : decode cX3_init 4 = .ok (.aload_n 0, 1) := by decide +kernel
theorem dX3_init_5 : decode cX3_init 5 = .ok (.new 9, 3) := by decide +kernel
theorem dX3_init_8 : decode cX3_init 8 = .ok (.dup, 1) := by decide +kernel
theorem dX3_init_9 : decode cX3_init 9 = .ok (.invokespecial 11, 3) := by decide +kernel
theorem dX3_init_12 : decode cX3_init 12 = .ok (.putfield 12, 3) := by decide +kernel
theorem dX3_init_15 : decode cX3_init 15 = .ok (.aload_n 0, 1) := by decide +kernel
theorem dX3_init_16 : decode cX3_init 16 = .ok (.bipush 48, 2) := by decide +kernel
theorem dX3_init_18 : decode cX3_init 18 = .ok (.newarray .int, 2) := by decide +kernel
theorem dX3_init_20 : decode cX3_init 20 = .ok (.putfield 18, 3) := by decide +kernel
theorem dX3_init_23 : decode cX3_init 23 = .ok (.aload_n 0, 1) := by decide +kernel
theorem dX3_init_24 : decode cX3_init 24 = .ok (.bipush 6, 2) := by decide +kernel
theorem dX3_init_26 : decode cX3_init 26 = .ok (.newarray .int, 2) := by decide +kernel
theorem dX3_init_28 : decode cX3_init 28 = .ok (.putfield 22, 3) := by decide +kernel
theorem dX3_init_31 : decode cX3_init 31 = .ok (.aload_n 0, 1) := by decide +kernel
theorem dX3_init_32 : decode cX3_init 32 = .ok (.sipush 864, 3) := by decide +kernel
theorem dX3_init_35 : decode cX3_init 35 = .ok (.newarray .int, 2) := by decide +kernel
theorem dX3_init_37 : decode cX3_init 37 = .ok (.putfield 25, 3) := by decide +kernel
theorem dX3_init_40 : decode cX3_init 40 = .ok (.aload_n 0, 1) := by decide +kernel
theorem dX3_init_41 : decode cX3_init 41 = .ok (.sipush 864, 3) := by decide +kernel
theorem dX3_init_44 : decode cX3_init 44 = .ok (.newarray .int, 2) := by decide +kernel
theorem dX3_init_46 : decode cX3_init 46 = .ok (.putfield 28, 3) := by decide +kernel
theorem dX3_init_49 : decode cX3_init 49 = .ok (.aload_n 0, 1) := by decide +kernel
theorem dX3_init_50 : decode cX3_init 50 = .ok (.sipush 864, 3) := by decide +kernel
theorem dX3_init_53 : decode cX3_init 53 = .ok (.newarray .int, 2) := by decide +kernel
theorem dX3_init_55 : decode cX3_init 55 = .ok (.putfield 31, 3) := by decide +kernel
theorem dX3_init_58 : decode cX3_init 58 = .ok (.aload_n 0, 1) := by decide +kernel
theorem dX3_init_59 : decode cX3_init 59 = .ok (.sipush 864, 3) := by decide +kernel
theorem dX3_init_62 : decode cX3_init 62 = .ok (.newarray .int, 2) := by decide +kernel
theorem dX3_init_64 : decode cX3_init 64 = .ok (.putfield 34, 3) := by decide +kernel
theorem dX3_init_67 : decode cX3_init 67 = .ok (.return_, 1) := by decide +kernel
theorem dX3_useRain_0 : decode cX3_useRain 0 = .ok (.aload_n 1, 1) := by decide +kernel
theorem dX3_useRain_1 : decode cX3_useRain 1 = .ok (.ifnull 28, 3) := by decide +kernel
theorem dX3_useRain_4 : decode cX3_useRain 4 = .ok (.aload_n 1, 1) := by decide +kernel
theorem dX3_useRain_5 : decode cX3_useRain 5 = .ok (.arraylength, 1) := by decide +kernel
theorem dX3_useRain_6 : decode cX3_useRain 6 = .ok (.aload_n 0, 1) := by decide +kernel
theorem dX3_useRain_7 : decode cX3_useRain 7 = .ok (.getfield 18, 3) := by decide +kernel
theorem dX3_useRain_10 : decode cX3_useRain 10 = .ok (.arraylength, 1) := by decide +kernel
theorem dX3_useRain_11 : decode cX3_useRain 11 = .ok (.if_icmp .ne 18, 3) := by decide +kernel
theorem dX3_useRain_14 : decode cX3_useRain 14 = .ok (.aload_n 1, 1) := by decide +kernel
theorem dX3_useRain_15 : decode cX3_useRain 15 = .ok (.iconst 0, 1) := by decide +kernel
theorem dX3_useRain_16 : decode cX3_useRain 16 = .ok (.aload_n 0, 1) := by decide +kernel
theorem dX3_useRain_17 : decode cX3_useRain 17 = .ok (.getfield 18, 3) := by decide +kernel
theorem dX3_useRain_20 : decode cX3_useRain 20 = .ok (.iconst 0, 1) := by decide +kernel
theorem dX3_useRain_21 : decode cX3_useRain 21 = .ok (.aload_n 0, 1) := by decide +kernel
theorem dX3_useRain_22 : decode cX3_useRain 22 = .ok (.getfield 18, 3) := by decide +kernel
theorem dX3_useRain_25 : decode cX3_useRain 25 = .ok (.arraylength, 1) := by decide +kernel
theorem dX3_useRain_26 : decode cX3_useRain 26 = .ok (.invokestatic 37, 3) := by decide +kernel
theorem dX3_useRain_29 : decode cX3_useRain 29 = .ok (.return_, 1) := by decide +kernel
theorem dX3_draw_0 : decode cX3_draw 0 = .ok (.iload_n 1, 1) := by decide +kernel
theorem dX3_draw_1 : decode cX3_draw 1 = .ok (.istore_n 2, 1) := by decide +kernel
theorem dX3_draw_2 : decode cX3_draw 2 = .ok (.iconst 0, 1) := by decide +kernel
theorem dX3_draw_3 : decode cX3_draw 3 = .ok (.istore_n 3, 1) := by decide +kernel
theorem dX3_draw_4 : decode cX3_draw 4 = .ok (.iload_n 3, 1) := by decide +kernel
theorem dX3_draw_5 : decode cX3_draw 5 = .ok (.aload_n 0, 1) := by decide +kernel
theorem dX3_draw_6 : decode cX3_draw 6 = .ok (.getfield 18, 3) := by decide +kernel
theorem dX3_draw_9 : decode cX3_draw 9 = .ok (.arraylength, 1) := by decide +kernel
theorem dX3_draw_10 : decode cX3_draw 10 = .ok (.if_icmp .ge 45, 3) := by decide +kernel
theorem dX3_draw_13 : decode cX3_draw 13 = .ok (.iload_n 2, 1) := by decide +kernel
theorem dX3_draw_14 : decode cX3_draw 14 = .ok (.ldc 43, 2) := by decide +kernel
theorem dX3_draw_16 : decode cX3_draw 16 = .ok (.imul, 1) := by decide +kernel
theorem dX3_draw_17 : decode cX3_draw 17 = .ok (.sipush 12345, 3) := by decide +kernel
theorem dX3_draw_20 : decode cX3_draw 20 = .ok (.iadd, 1) := by decide +kernel
theorem dX3_draw_21 : decode cX3_draw 21 = .ok (.istore_n 2, 1) := by decide +kernel
theorem dX3_draw_22 : decode cX3_draw 22 = .ok (.iload_n 2, 1) := by decide +kernel
theorem dX3_draw_23 : decode cX3_draw 23 = .ok (.bipush 9, 2) := by decide +kernel
theorem dX3_draw_25 : decode cX3_draw 25 = .ok (.iushr, 1) := by decide +kernel
theorem dX3_draw_26 : decode cX3_draw 26 = .ok (.bipush 10, 2) := by decide +kernel
theorem dX3_draw_28 : decode cX3_draw 28 = .ok (.irem, 1) := by decide +kernel
theorem dX3_draw_29 : decode cX3_draw 29 = .ok (.istore 4, 2) := by decide +kernel
theorem dX3_draw_31 : decode cX3_draw 31 = .ok (.aload_n 0, 1) := by decide +kernel
theorem dX3_draw_32 : decode cX3_draw 32 = .ok (.getfield 18, 3) := by decide +kernel
theorem dX3_draw_35 : decode cX3_draw 35 = .ok (.iload_n 3, 1) := by decide +kernel
theorem dX3_draw_36 : decode cX3_draw 36 = .ok (.iload 4, 2) := by decide +kernel
theorem dX3_draw_38 : decode cX3_draw 38 = .ok (.iconst 4, 1) := by decide +kernel
theorem dX3_draw_39 : decode cX3_draw 39 = .ok (.if_icmp .ge 7, 3) := by decide +kernel
theorem dX3_draw_42 : decode cX3_draw 42 = .ok (.iconst 0, 1) := by decide +kernel
theorem dX3_draw_43 : decode cX3_draw 43 = .ok (.goto 5, 3) := by decide +kernel
theorem dX3_draw_46 : decode cX3_draw 46 = .ok (.iload 4, 2) := by decide +kernel
theorem dX3_draw_48 : decode cX3_draw 48 = .ok (.iastore, 1) := by decide +kernel
theorem dX3_draw_49 : decode cX3_draw 49 = .ok (.iinc 3 1, 3) := by decide +kernel
theorem dX3_draw_52 : decode cX3_draw 52 = .ok (.goto (-48), 3) := by decide +kernel
theorem dX3_draw_55 : decode cX3_draw 55 = .ok (.return_, 1) := by decide +kernel
set_option maxRecDepth 20000 in
theorem ggX3_run_X2_shakenCount : GoodIn wsX3_run wsX2_shakenCount := goodIn_r _ [11, 12, 13, 14, 15, 16, 113, 114, 115, 116, 117, 118, 119, 120] rfl (by decide +kernel)
set_option maxRecDepth 20000 in
theorem gX3_run_X2_shakenCount : GoodIn wsX3_run (wsV RX3 57 RX2 yX2_shakenCount wsX2_shakenCount) := goodIn_app (goodIn_of _ (by decide +kernel)) ggX3_run_X2_shakenCount
set_option maxRecDepth 20000 in
theorem ggX3_run_X7_at : GoodIn wsX3_run wsX7_at := goodIn_r _ [16] rfl (by decide +kernel)
set_option maxRecDepth 20000 in
theorem gX3_run_X7_at_n63 : GoodIn wsX3_run (wsX7_at) := ggX3_run_X7_at
set_option maxRecDepth 20000 in
theorem ggX3_run_J6_bitCount_0f7a4 : GoodIn wsX3_run wsJ6_bitCount_0f7a4 := goodIn_r _ [20, 21, 22, 23] rfl (by decide +kernel)
set_option maxRecDepth 20000 in
theorem gX3_run_J6_bitCount_0f7a4 : GoodIn wsX3_run (va_wsS RX3 67 yJ6_bitCount_0f7a4 wsJ6_bitCount_0f7a4) := goodIn_app (goodIn_of _ (by decide +kernel)) ggX3_run_J6_bitCount_0f7a4
set_option maxRecDepth 20000 in
theorem ggX3_run_X0_regard : GoodIn wsX3_run wsX0_regard := goodIn_r _ [28, 29, 30, 31, 32, 33, 34, 35, 36, 37, 14, 15, 16, 38, 39, 113, 114, 115, 116, 117, 118, 119, 120, 121, 122, 123, 124] rfl (by decide +kernel)
set_option maxRecDepth 20000 in
theorem gX3_run_X0_regard : GoodIn wsX3_run (wsV RX3 73 RX0 yX0_regard wsX0_regard) := goodIn_app (goodIn_of _ (by decide +kernel)) ggX3_run_X0_regard
set_option maxRecDepth 20000 in
theorem ggX3_run_X0_shakenHour : GoodIn wsX3_run wsX0_shakenHour := goodIn_r _ [43, 44, 45, 46, 27, 47, 48, 49, 50, 51, 34, 52, 53, 54, 55, 35, 38, 15, 39, 56, 57, 58, 59, 32, 30, 60, 61, 62, 63, 64, 65, 66, 67, 14, 16, 68, 69, 70, 71, 72, 73, 74, 75, 76, 77, 78, 79, 80, 81, 82, 83, 84, 85, 86, 87, 121, 122, 123, 124, 125, 126, 127, 128] rfl (by decide +kernel)
set_option maxRecDepth 20000 in
theorem gX3_run_X0_shakenHour : GoodIn wsX3_run (wsV RX3 77 RX0 yX0_shakenHour wsX0_shakenHour) := goodIn_app (goodIn_of _ (by decide +kernel)) ggX3_run_X0_shakenHour
set_option maxRecDepth 20000 in
theorem ggX3_run_X0_see : GoodIn wsX3_run wsX0_see := goodIn_r _ [55, 35, 48, 49, 50, 27, 51, 34, 38, 15, 39, 121, 122, 123, 124] rfl (by decide +kernel)
set_option maxRecDepth 20000 in
theorem gX3_run_X0_see : GoodIn wsX3_run (wsV RX3 80 RX0 yX0_see wsX0_see) := goodIn_app (goodIn_of _ (by decide +kernel)) ggX3_run_X0_see
set_option maxRecDepth 20000 in
theorem ggX3_run_X0_worth : GoodIn wsX3_run wsX0_worth := goodIn_r _ [92, 32, 35, 30, 60, 61, 62, 63, 64, 65, 66, 67, 14, 15, 16, 38, 39, 68, 69, 70, 71, 72, 93, 94, 75, 95, 121, 122, 123, 124, 125, 126, 127, 128] rfl (by decide +kernel)
set_option maxRecDepth 20000 in
theorem gX3_run_X0_worth : GoodIn wsX3_run (wsV RX3 84 RX0 yX0_worth wsX0_worth) := goodIn_app (goodIn_of _ (by decide +kernel)) ggX3_run_X0_worth
theorem dX3_run_0 : decode cX3_run 0 = .ok (.aload_n 0, 1) := by decide +kernel
theorem dX3_run_1 : decode cX3_run 1 = .ok (.iconst 0, 1) := by decide +kernel
theorem dX3_run_2 : decode cX3_run 2 = .ok (.putfield 44, 3) := by decide +kernel
theorem dX3_run_5 : decode cX3_run 5 = .ok (.aload_n 0, 1) := by decide +kernel
theorem dX3_run_6 : decode cX3_run 6 = .ok (.iconst 0, 1) := by decide +kernel
theorem dX3_run_7 : decode cX3_run 7 = .ok (.putfield 48, 3) := by decide +kernel
theorem dX3_run_10 : decode cX3_run 10 = .ok (.aload_n 0, 1) := by decide +kernel
theorem dX3_run_11 : decode cX3_run 11 = .ok (.iconst (-1), 1) := by decide +kernel
theorem dX3_run_12 : decode cX3_run 12 = .ok (.putfield 51, 3) := by decide +kernel
theorem dX3_run_15 : decode cX3_run 15 = .ok (.aload_n 0, 1) := by decide +kernel
theorem dX3_run_16 : decode cX3_run 16 = .ok (.iconst 0, 1) := by decide +kernel
theorem dX3_run_17 : decode cX3_run 17 = .ok (.putfield 54, 3) := by decide +kernel
theorem dX3_run_20 : decode cX3_run 20 = .ok (.aload_n 1, 1) := by decide +kernel
theorem dX3_run_21 : decode cX3_run 21 = .ok (.ifnonnull 7, 3) := by decide +kernel
theorem dX3_run_24 : decode cX3_run 24 = .ok (.iconst 0, 1) := by decide +kernel
theorem dX3_run_25 : decode cX3_run 25 = .ok (.goto 7, 3) := by decide +kernel
theorem dX3_run_28 : decode cX3_run 28 = .ok (.aload_n 1, 1) := by decide +kernel
theorem dX3_run_29 : decode cX3_run 29 = .ok (.invokevirtual 57, 3) := by decide +kernel
theorem dX3_run_32 : decode cX3_run 32 = .ok (.istore 4, 2) := by decide +kernel
theorem dX3_run_34 : decode cX3_run 34 = .ok (.iconst 0, 1) := by decide +kernel
theorem dX3_run_35 : decode cX3_run 35 = .ok (.istore 5, 2) := by decide +kernel
theorem dX3_run_37 : decode cX3_run 37 = .ok (.iload 5, 2) := by decide +kernel
theorem dX3_run_39 : decode cX3_run 39 = .ok (.iload_n 3, 1) := by decide +kernel
theorem dX3_run_40 : decode cX3_run 40 = .ok (.if_icmp .ge 133, 3) := by decide +kernel
theorem dX3_run_43 : decode cX3_run 43 = .ok (.iload 5, 2) := by decide +kernel
theorem dX3_run_45 : decode cX3_run 45 = .ok (.bipush 6, 2) := by decide +kernel
theorem dX3_run_47 : decode cX3_run 47 = .ok (.if_icmp .ge 126, 3) := by decide +kernel
theorem dX3_run_50 : decode cX3_run 50 = .ok (.aload_n 2, 1) := by decide +kernel
theorem dX3_run_51 : decode cX3_run 51 = .ok (.iload 5, 2) := by decide +kernel
theorem dX3_run_53 : decode cX3_run 53 = .ok (.invokestatic 63, 3) := by decide +kernel
theorem dX3_run_56 : decode cX3_run 56 = .ok (.istore 6, 2) := by decide +kernel
theorem dX3_run_58 : decode cX3_run 58 = .ok (.aload_n 0, 1) := by decide +kernel
theorem dX3_run_59 : decode cX3_run 59 = .ok (.getfield 12, 3) := by decide +kernel
theorem dX3_run_62 : decode cX3_run 62 = .ok (.aload_n 1, 1) := by decide +kernel
theorem dX3_run_63 : decode cX3_run 63 = .ok (.iload 6, 2) := by decide +kernel
theorem dX3_run_65 : decode cX3_run 65 = .ok (.iload 4, 2) := by decide +kernel
theorem dX3_run_67 : decode cX3_run 67 = .ok (.aload_n 0, 1) := by decide +kernel
theorem dX3_run_68 : decode cX3_run 68 = .ok (.getfield 48, 3) := by decide +kernel
theorem dX3_run_71 : decode cX3_run 71 = .ok (.invokestatic 67, 3) := by decide +kernel
theorem dX3_run_74 : decode cX3_run 74 = .ok (.iadd, 1) := by decide +kernel
theorem dX3_run_75 : decode cX3_run 75 = .ok (.invokevirtual 73, 3) := by decide +kernel
theorem dX3_run_78 : decode cX3_run 78 = .ok (.aload_n 0, 1) := by decide +kernel
theorem dX3_run_79 : decode cX3_run 79 = .ok (.getfield 12, 3) := by decide +kernel
theorem dX3_run_82 : decode cX3_run 82 = .ok (.aload_n 0, 1) := by decide +kernel
theorem dX3_run_83 : decode cX3_run 83 = .ok (.getfield 18, 3) := by decide +kernel
theorem dX3_run_86 : decode cX3_run 86 = .ok (.aload_n 0, 1) := by decide +kernel
theorem dX3_run_87 : decode cX3_run 87 = .ok (.getfield 51, 3) := by decide +kernel
theorem dX3_run_90 : decode cX3_run 90 = .ok (.iconst 1, 1) := by decide +kernel
theorem dX3_run_91 : decode cX3_run 91 = .ok (.iadd, 1) := by decide +kernel
theorem dX3_run_92 : decode cX3_run 92 = .ok (.invokevirtual 77, 3) := by decide +kernel
theorem dX3_run_95 : decode cX3_run 95 = .ok (.istore 7, 2) := by decide +kernel
theorem dX3_run_97 : decode cX3_run 97 = .ok (.iload 7, 2) := by decide +kernel
theorem dX3_run_99 : decode cX3_run 99 = .ok (.iconst (-1), 1) := by decide +kernel
theorem dX3_run_100 : decode cX3_run 100 = .ok (.if_icmp .ne 19, 3) := by decide +kernel
theorem dX3_run_103 : decode cX3_run 103 = .ok (.aload_n 0, 1) := by decide +kernel
theorem dX3_run_104 : decode cX3_run 104 = .ok (.dup, 1) := by decide +kernel
theorem dX3_run_105 : decode cX3_run 105 = .ok (.getfield 54, 3) := by decide +kernel
theorem dX3_run_108 : decode cX3_run 108 = .ok (.iconst 1, 1) := by decide +kernel
theorem dX3_run_109 : decode cX3_run 109 = .ok (.iload 6, 2) := by decide +kernel
theorem dX3_run_111 : decode cX3_run 111 = .ok (.ishl, 1) := by decide +kernel
theorem dX3_run_112 : decode cX3_run 112 = .ok (.ior, 1) := by decide +kernel
theorem dX3_run_113 : decode cX3_run 113 = .ok (.putfield 54, 3) := by decide +kernel
theorem dX3_run_116 : decode cX3_run 116 = .ok (.goto 51, 3) := by decide +kernel
theorem dX3_run_119 : decode cX3_run 119 = .ok (.aload_n 0, 1) := by decide +kernel
theorem dX3_run_120 : decode cX3_run 120 = .ok (.getfield 12, 3) := by decide +kernel
theorem dX3_run_123 : decode cX3_run 123 = .ok (.aload_n 0, 1) := by decide +kernel
theorem dX3_run_124 : decode cX3_run 124 = .ok (.getfield 18, 3) := by decide +kernel
theorem dX3_run_127 : decode cX3_run 127 = .ok (.iload 7, 2) := by decide +kernel
theorem dX3_run_129 : decode cX3_run 129 = .ok (.invokevirtual 80, 3) := by decide +kernel
theorem dX3_run_132 : decode cX3_run 132 = .ok (.aload_n 0, 1) := by decide +kernel
theorem dX3_run_133 : decode cX3_run 133 = .ok (.dup, 1) := by decide +kernel
theorem dX3_run_134 : decode cX3_run 134 = .ok (.getfield 44, 3) := by decide +kernel
theorem dX3_run_137 : decode cX3_run 137 = .ok (.aload_n 0, 1) := by decide +kernel
theorem dX3_run_138 : decode cX3_run 138 = .ok (.getfield 12, 3) := by decide +kernel
theorem dX3_run_141 : decode cX3_run 141 = .ok (.invokevirtual 84, 3) := by decide +kernel
theorem dX3_run_144 : decode cX3_run 144 = .ok (.iadd, 1) := by decide +kernel
theorem dX3_run_145 : decode cX3_run 145 = .ok (.putfield 44, 3) := by decide +kernel
theorem dX3_run_148 : decode cX3_run 148 = .ok (.aload_n 0, 1) := by decide +kernel
theorem dX3_run_149 : decode cX3_run 149 = .ok (.dup, 1) := by decide +kernel
theorem dX3_run_150 : decode cX3_run 150 = .ok (.getfield 48, 3) := by decide +kernel
theorem dX3_run_153 : decode cX3_run 153 = .ok (.iconst 1, 1) := by decide +kernel
theorem dX3_run_154 : decode cX3_run 154 = .ok (.iload 6, 2) := by decide +kernel
theorem dX3_run_156 : decode cX3_run 156 = .ok (.ishl, 1) := by decide +kernel
theorem dX3_run_157 : decode cX3_run 157 = .ok (.ior, 1) := by decide +kernel
theorem dX3_run_158 : decode cX3_run 158 = .ok (.putfield 48, 3) := by decide +kernel
theorem dX3_run_161 : decode cX3_run 161 = .ok (.aload_n 0, 1) := by decide +kernel
theorem dX3_run_162 : decode cX3_run 162 = .ok (.iload 7, 2) := by decide +kernel
theorem dX3_run_164 : decode cX3_run 164 = .ok (.putfield 51, 3) := by decide +kernel
theorem dX3_run_167 : decode cX3_run 167 = .ok (.iinc 5 1, 3) := by decide +kernel
theorem dX3_run_170 : decode cX3_run 170 = .ok (.goto (-133), 3) := by decide +kernel
theorem dX3_run_173 : decode cX3_run 173 = .ok (.return_, 1) := by decide +kernel
set_option maxRecDepth 20000 in
theorem ggX3_lineUp_X2_unshaken : GoodIn wsX3_lineUp wsX2_unshaken := goodIn_r _ [6, 7, 8, 9, 10, 11, 33, 34, 35, 36, 37, 38, 39, 40] rfl (by decide +kernel)
set_option maxRecDepth 20000 in
theorem gX3_lineUp_X2_unshaken : GoodIn wsX3_lineUp (wsV RX3 87 RX2 yX2_unshaken wsX2_unshaken) := goodIn_app (goodIn_of _ (by decide +kernel)) ggX3_lineUp_X2_unshaken
set_option maxRecDepth 20000 in
theorem ggX3_lineUp_X7_hasBit : GoodIn wsX3_lineUp wsX7_hasBit := goodIn_r _ [13] rfl (by decide +kernel)
set_option maxRecDepth 20000 in
theorem gX3_lineUp_X7_hasBit_n90 : GoodIn wsX3_lineUp (wsX7_hasBit) := ggX3_lineUp_X7_hasBit
set_option maxRecDepth 20000 in
theorem ggX3_lineUp_X7_put : GoodIn wsX3_lineUp wsX7_put := goodIn_r _ [15] rfl (by decide +kernel)
set_option maxRecDepth 20000 in
theorem gX3_lineUp_X7_put_n94 : GoodIn wsX3_lineUp (wsX7_put) := ggX3_lineUp_X7_put
theorem dX3_lineUp_0 : decode cX3_lineUp 0 = .ok (.aload_n 1, 1) := by decide +kernel
theorem dX3_lineUp_1 : decode cX3_lineUp 1 = .ok (.ifnonnull 7, 3) := by decide +kernel
theorem dX3_lineUp_4 : decode cX3_lineUp 4 = .ok (.iconst 0, 1) := by decide +kernel
theorem dX3_lineUp_5 : decode cX3_lineUp 5 = .ok (.goto 7, 3) := by decide +kernel
theorem dX3_lineUp_8 : decode cX3_lineUp 8 = .ok (.aload_n 1, 1) := by decide +kernel
theorem dX3_lineUp_9 : decode cX3_lineUp 9 = .ok (.invokevirtual 87, 3) := by decide +kernel
theorem dX3_lineUp_12 : decode cX3_lineUp 12 = .ok (.istore_n 2, 1) := by decide +kernel
theorem dX3_lineUp_13 : decode cX3_lineUp 13 = .ok (.iconst 0, 1) := by decide +kernel
theorem dX3_lineUp_14 : decode cX3_lineUp 14 = .ok (.istore_n 3, 1) := by decide +kernel
theorem dX3_lineUp_15 : decode cX3_lineUp 15 = .ok (.iconst 0, 1) := by decide +kernel
theorem dX3_lineUp_16 : decode cX3_lineUp 16 = .ok (.istore 4, 2) := by decide +kernel
theorem dX3_lineUp_18 : decode cX3_lineUp 18 = .ok (.iload 4, 2) := by decide +kernel
theorem dX3_lineUp_20 : decode cX3_lineUp 20 = .ok (.bipush 6, 2) := by decide +kernel
theorem dX3_lineUp_22 : decode cX3_lineUp 22 = .ok (.if_icmp .ge 31, 3) := by decide +kernel
theorem dX3_lineUp_25 : decode cX3_lineUp 25 = .ok (.iload_n 2, 1) := by decide +kernel
theorem dX3_lineUp_26 : decode cX3_lineUp 26 = .ok (.iload 4, 2) := by decide +kernel
theorem dX3_lineUp_28 : decode cX3_lineUp 28 = .ok (.invokestatic 90, 3) := by decide +kernel
theorem dX3_lineUp_31 : decode cX3_lineUp 31 = .ok (.ifCond .eq 16, 3) := by decide +kernel
theorem dX3_lineUp_34 : decode cX3_lineUp 34 = .ok (.aload_n 0, 1) := by decide +kernel
theorem dX3_lineUp_35 : decode cX3_lineUp 35 = .ok (.getfield 22, 3) := by decide +kernel
theorem dX3_lineUp_38 : decode cX3_lineUp 38 = .ok (.iload_n 3, 1) := by decide +kernel
theorem dX3_lineUp_39 : decode cX3_lineUp 39 = .ok (.iload 4, 2) := by decide +kernel
theorem dX3_lineUp_41 : decode cX3_lineUp 41 = .ok (.invokestatic 94, 3) := by decide +kernel
theorem dX3_lineUp_44 : decode cX3_lineUp 44 = .ok (.iinc 3 1, 3) := by decide +kernel
theorem dX3_lineUp_47 : decode cX3_lineUp 47 = .ok (.iinc 4 1, 3) := by decide +kernel
theorem dX3_lineUp_50 : decode cX3_lineUp 50 = .ok (.goto (-32), 3) := by decide +kernel
theorem dX3_lineUp_53 : decode cX3_lineUp 53 = .ok (.iload_n 3, 1) := by decide +kernel
theorem dX3_lineUp_54 : decode cX3_lineUp 54 = .ok (.ireturn, 1) := by decide +kernel
set_option maxRecDepth 20000 in
theorem ggX3_prepare_X3_useRain : GoodIn wsX3_prepare wsX3_useRain := goodIn_r _ [8, 9, 10, 11, 12, 13, 129, 130, 131, 132, 133, 134, 135, 136, 137, 138, 139, 140, 141, 142, 143, 144, 145] rfl (by decide +kernel)
set_option maxRecDepth 20000 in
theorem gX3_prepare_X3_useRain : GoodIn wsX3_prepare (wsV RX3 99 RX3 yX3_useRain wsX3_useRain) := goodIn_app (goodIn_of _ (by decide +kernel)) ggX3_prepare_X3_useRain
set_option maxRecDepth 20000 in
theorem ggX3_prepare_X2_unshaken : GoodIn wsX3_prepare wsX2_unshaken := goodIn_r _ [18, 19, 20, 21, 22, 23, 121, 122, 123, 124, 125, 126, 127, 128] rfl (by decide +kernel)
set_option maxRecDepth 20000 in
theorem gX3_prepare_X2_unshaken : GoodIn wsX3_prepare (wsV RX3 87 RX2 yX2_unshaken wsX2_unshaken) := goodIn_app (goodIn_of _ (by decide +kernel)) ggX3_prepare_X2_unshaken
set_option maxRecDepth 20000 in
theorem ggX3_prepare_X2_shakenCount : GoodIn wsX3_prepare wsX2_shakenCount := goodIn_r _ [27, 19, 20, 21, 22, 23, 121, 122, 123, 124, 125, 126, 127, 128] rfl (by decide +kernel)
set_option maxRecDepth 20000 in
theorem gX3_prepare_X2_shakenCount : GoodIn wsX3_prepare (wsV RX3 57 RX2 yX2_shakenCount wsX2_shakenCount) := goodIn_app (goodIn_of _ (by decide +kernel)) ggX3_prepare_X2_shakenCount
set_option maxRecDepth 20000 in
theorem ggX3_prepare_X3_learn : GoodIn wsX3_prepare wsX3_learn := goodIn_r _ [31, 3, 2, 32, 9, 33, 34, 35, 36, 37, 38, 39, 40, 41, 42, 43, 22, 44, 45, 46, 47, 7, 48, 49, 50, 51, 52, 53, 54, 55, 56, 57, 58, 59, 60, 61, 62, 21, 23, 63, 64, 65, 66, 67, 68, 69, 70, 71, 72, 73, 74, 75, 76, 77, 78, 79, 80, 81, 82, 83, 84, 85, 86, 87, 88, 89, 90, 91, 92, 93, 94, 95, 96, 97, 98, 99, 100, 101, 102, 103, 104, 105, 106, 107, 129, 130, 131, 132, 133, 134, 135, 136, 137, 138, 139, 140, 141, 142, 143, 144, 145, 121, 122, 123, 124, 125, 126, 127, 128, 146, 147, 148, 149, 150, 151, 152, 153] rfl (by decide +kernel)
set_option maxRecDepth 20000 in
theorem gX3_prepare_X3_learn : GoodIn wsX3_prepare (wsV RX3 109 RX3 yX3_learn wsX3_learn) := goodIn_app (goodIn_of _ (by decide +kernel)) ggX3_prepare_X3_learn
set_option maxRecDepth 20000 in
theorem ggX3_prepare_X3_fillEnds : GoodIn wsX3_prepare wsX3_fillEnds := goodIn_r _ [111, 3, 2, 32, 36, 37, 38, 39, 40, 41, 42, 43, 22, 44, 49, 50, 51, 52, 53, 54, 55, 56, 57, 58, 59, 60, 61, 62, 21, 23, 63, 64, 45, 46, 47, 7, 48, 112, 113, 114, 115, 9, 33, 34, 116, 117, 118, 119, 120, 69, 70, 71, 72, 129, 130, 131, 132, 133, 134, 135, 136, 137, 138, 139, 140, 141, 142, 143, 144, 145, 121, 122, 123, 124, 125, 126, 127, 128, 146, 147, 148, 149] rfl (by decide +kernel)
set_option maxRecDepth 20000 in
theorem gX3_prepare_X3_fillEnds : GoodIn wsX3_prepare (wsV RX3 112 RX3 yX3_fillEnds wsX3_fillEnds) := goodIn_app (goodIn_of _ (by decide +kernel)) ggX3_prepare_X3_fillEnds
theorem dX3_prepare_0 : decode cX3_prepare 0 = .ok (.aload_n 1, 1) := by decide +kernel
theorem dX3_prepare_1 : decode cX3_prepare 1 = .ok (.ifnonnull 4, 3) := by decide +kernel
theorem dX3_prepare_4 : decode cX3_prepare 4 = .ok (.return_, 1) := by decide +kernel
theorem dX3_prepare_5 : decode cX3_prepare 5 = .ok (.aload_n 0, 1) := by decide +kernel
theorem dX3_prepare_6 : decode cX3_prepare 6 = .ok (.aload_n 1, 1) := by decide +kernel
theorem dX3_prepare_7 : decode cX3_prepare 7 = .ok (.getfield 98, 3) := by decide +kernel
theorem dX3_prepare_10 : decode cX3_prepare 10 = .ok (.invokevirtual 99, 3) := by decide +kernel
theorem dX3_prepare_13 : decode cX3_prepare 13 = .ok (.aload_n 0, 1) := by decide +kernel
theorem dX3_prepare_14 : decode cX3_prepare 14 = .ok (.aload_n 1, 1) := by decide +kernel
theorem dX3_prepare_15 : decode cX3_prepare 15 = .ok (.invokevirtual 87, 3) := by decide +kernel
theorem dX3_prepare_18 : decode cX3_prepare 18 = .ok (.putfield 103, 3) := by decide +kernel
theorem dX3_prepare_21 : decode cX3_prepare 21 = .ok (.aload_n 0, 1) := by decide +kernel
theorem dX3_prepare_22 : decode cX3_prepare 22 = .ok (.aload_n 1, 1) := by decide +kernel
theorem dX3_prepare_23 : decode cX3_prepare 23 = .ok (.invokevirtual 57, 3) := by decide +kernel
theorem dX3_prepare_26 : decode cX3_prepare 26 = .ok (.putfield 106, 3) := by decide +kernel
theorem dX3_prepare_29 : decode cX3_prepare 29 = .ok (.iconst 0, 1) := by decide +kernel
theorem dX3_prepare_30 : decode cX3_prepare 30 = .ok (.istore_n 2, 1) := by decide +kernel
theorem dX3_prepare_31 : decode cX3_prepare 31 = .ok (.iload_n 2, 1) := by decide +kernel
theorem dX3_prepare_32 : decode cX3_prepare 32 = .ok (.bipush 24, 2) := by decide +kernel
theorem dX3_prepare_34 : decode cX3_prepare 34 = .ok (.if_icmp .ge 19, 3) := by decide +kernel
theorem dX3_prepare_37 : decode cX3_prepare 37 = .ok (.aload_n 0, 1) := by decide +kernel
theorem dX3_prepare_38 : decode cX3_prepare 38 = .ok (.aload_n 1, 1) := by decide +kernel
theorem dX3_prepare_39 : decode cX3_prepare 39 = .ok (.aload_n 0, 1) := by decide +kernel
theorem dX3_prepare_40 : decode cX3_prepare 40 = .ok (.getfield 103, 3) := by decide +kernel
theorem dX3_prepare_43 : decode cX3_prepare 43 = .ok (.iload_n 2, 1) := by decide +kernel
theorem dX3_prepare_44 : decode cX3_prepare 44 = .ok (.invokevirtual 109, 3) := by decide +kernel
theorem dX3_prepare_47 : decode cX3_prepare 47 = .ok (.iinc 2 1, 3) := by decide +kernel
theorem dX3_prepare_50 : decode cX3_prepare 50 = .ok (.goto (-19), 3) := by decide +kernel
theorem dX3_prepare_53 : decode cX3_prepare 53 = .ok (.aload_n 0, 1) := by decide +kernel
theorem dX3_prepare_54 : decode cX3_prepare 54 = .ok (.aload_n 1, 1) := by decide +kernel
theorem dX3_prepare_55 : decode cX3_prepare 55 = .ok (.aload_n 0, 1) := by decide +kernel
theorem dX3_prepare_56 : decode cX3_prepare 56 = .ok (.getfield 103, 3) := by decide +kernel
theorem dX3_prepare_59 : decode cX3_prepare 59 = .ok (.invokevirtual 112, 3) := by decide +kernel
theorem dX3_prepare_62 : decode cX3_prepare 62 = .ok (.return_, 1) := by decide +kernel
set_option maxRecDepth 20000 in
theorem ggX3_seek_X3_walk : GoodIn wsX3_seek wsX3_walk := goodIn_r _ [7, 1, 2, 8, 9, 10, 11, 12, 13, 14, 15, 16, 6, 17, 18, 19, 3, 4, 5, 20, 21, 22, 23, 24, 25, 26, 27, 28, 29, 30, 31, 32, 33, 34, 35, 36] rfl (by decide +kernel)
set_option maxRecDepth 20000 in
theorem gX3_seek_X3_walk : GoodIn wsX3_seek (wsV RX3 122 RX3 yX3_walk wsX3_walk) := goodIn_app (goodIn_of _ (by decide +kernel)) ggX3_seek_X3_walk
theorem dX3_seek_0 : decode cX3_seek 0 = .ok (.aload_n 0, 1) := by decide +kernel
theorem dX3_seek_1 : decode cX3_seek 1 = .ok (.iconst 0, 1) := by decide +kernel
theorem dX3_seek_2 : decode cX3_seek 2 = .ok (.putfield 116, 3) := by decide +kernel
theorem dX3_seek_5 : decode cX3_seek 5 = .ok (.aload_n 0, 1) := by decide +kernel
theorem dX3_seek_6 : decode cX3_seek 6 = .ok (.iconst 0, 1) := by decide +kernel
theorem dX3_seek_7 : decode cX3_seek 7 = .ok (.putfield 119, 3) := by decide +kernel
theorem dX3_seek_10 : decode cX3_seek 10 = .ok (.aload_n 0, 1) := by decide +kernel
theorem dX3_seek_11 : decode cX3_seek 11 = .ok (.iload_n 1, 1) := by decide +kernel
theorem dX3_seek_12 : decode cX3_seek 12 = .ok (.iload_n 2, 1) := by decide +kernel
theorem dX3_seek_13 : decode cX3_seek 13 = .ok (.iconst (-1), 1) := by decide +kernel
theorem dX3_seek_14 : decode cX3_seek 14 = .ok (.iconst 0, 1) := by decide +kernel
theorem dX3_seek_15 : decode cX3_seek 15 = .ok (.iconst 0, 1) := by decide +kernel
theorem dX3_seek_16 : decode cX3_seek 16 = .ok (.iconst 0, 1) := by decide +kernel
theorem dX3_seek_17 : decode cX3_seek 17 = .ok (.invokevirtual 122, 3) := by decide +kernel
theorem dX3_seek_20 : decode cX3_seek 20 = .ok (.aload_n 0, 1) := by decide +kernel
theorem dX3_seek_21 : decode cX3_seek 21 = .ok (.getfield 116, 3) := by decide +kernel
theorem dX3_seek_24 : decode cX3_seek 24 = .ok (.ireturn, 1) := by decide +kernel
set_option maxRecDepth 20000 in
theorem ggX3_leave_X7_hasBit : GoodIn wsX3_leave wsX7_hasBit := goodIn_r _ [4] rfl (by decide +kernel)
set_option maxRecDepth 20000 in
theorem gX3_leave_X7_hasBit_n90 : GoodIn wsX3_leave (wsX7_hasBit) := ggX3_leave_X7_hasBit
set_option maxRecDepth 20000 in
theorem ggX3_leave_X3_seek : GoodIn wsX3_leave wsX3_seek := goodIn_r _ [9, 10, 11, 12, 13, 14, 8, 15, 16, 17, 18, 2, 3, 4, 19, 20, 21, 22, 23, 24, 25, 26, 27, 28, 29, 30, 31, 32, 33, 34, 35, 36, 37, 38, 39, 40, 41] rfl (by decide +kernel)
set_option maxRecDepth 20000 in
theorem gX3_leave_X3_seek : GoodIn wsX3_leave (wsV RX3 126 RX3 yX3_seek wsX3_seek) := goodIn_app (goodIn_of _ (by decide +kernel)) ggX3_leave_X3_seek
theorem dX3_leave_0 : decode cX3_leave 0 = .ok (.iconst 0, 1) := by decide +kernel
theorem dX3_leave_1 : decode cX3_leave 1 = .ok (.istore_n 2, 1) := by decide +kernel
theorem dX3_leave_2 : decode cX3_leave 2 = .ok (.iload_n 2, 1) := by decide +kernel
theorem dX3_leave_3 : decode cX3_leave 3 = .ok (.bipush 6, 2) := by decide +kernel
theorem dX3_leave_5 : decode cX3_leave 5 = .ok (.if_icmp .ge 42, 3) := by decide +kernel
theorem dX3_leave_8 : decode cX3_leave 8 = .ok (.aload_n 0, 1) := by decide +kernel
theorem dX3_leave_9 : decode cX3_leave 9 = .ok (.getfield 103, 3) := by decide +kernel
