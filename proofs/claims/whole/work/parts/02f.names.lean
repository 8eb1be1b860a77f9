theorem dX7_water_20 : decode cX7_water 20 = .ok (.getfield 10, 3) := by decide +kernel
theorem dX7_water_23 : decode cX7_water 23 = .ok (.invokevirtual 136, 3) := by decide +kernel
theorem dX7_water_26 : decode cX7_water 26 = .ok (.isub, 1) := by decide +kernel
theorem dX7_water_27 : decode cX7_water 27 = .ok (.iconst 4, 1) := by decide +kernel
theorem dX7_water_28 : decode cX7_water 28 = .ok (.if_icmp .le 6, 3) := by decide +kernel
theorem dX7_water_31 : decode cX7_water 31 = .ok (.bipush (-3), 2) := by decide +kernel
theorem dX7_water_33 : decode cX7_water 33 = .ok (.ireturn, 1) := by decide +kernel
theorem dX7_water_34 : decode cX7_water 34 = .ok (.aload_n 0, 1) := by decide +kernel
theorem dX7_water_35 : decode cX7_water 35 = .ok (.getfield 48, 3) := by decide +kernel
theorem dX7_water_38 : decode cX7_water 38 = .ok (.aload_n 0, 1) := by decide +kernel
theorem dX7_water_39 : decode cX7_water 39 = .ok (.getfield 10, 3) := by decide +kernel
theorem dX7_water_42 : decode cX7_water 42 = .ok (.invokevirtual 216, 3) := by decide +kernel
theorem dX7_water_45 : decode cX7_water 45 = .ok (.aload_n 0, 1) := by decide +kernel
theorem dX7_water_46 : decode cX7_water 46 = .ok (.getfield 48, 3) := by decide +kernel
theorem dX7_water_49 : decode cX7_water 49 = .ok (.aload_n 0, 1) := by decide +kernel
theorem dX7_water_50 : decode cX7_water 50 = .ok (.getfield 10, 3) := by decide +kernel
theorem dX7_water_53 : decode cX7_water 53 = .ok (.invokevirtual 232, 3) := by decide +kernel
theorem dX7_water_56 : decode cX7_water 56 = .ok (.iload_n 1, 1) := by decide +kernel
theorem dX7_water_57 : decode cX7_water 57 = .ok (.ifCond .ne 13, 3) := by decide +kernel
theorem dX7_water_60 : decode cX7_water 60 = .ok (.aload_n 0, 1) := by decide +kernel
theorem dX7_water_61 : decode cX7_water 61 = .ok (.getfield 48, 3) := by decide +kernel
theorem dX7_water_64 : decode cX7_water 64 = .ok (.getfield 235, 3) := by decide +kernel
theorem dX7_water_67 : decode cX7_water 67 = .ok (.goto 10, 3) := by decide +kernel
theorem dX7_water_70 : decode cX7_water 70 = .ok (.aload_n 0, 1) := by decide +kernel
theorem dX7_water_71 : decode cX7_water 71 = .ok (.getfield 48, 3) := by decide +kernel
theorem dX7_water_74 : decode cX7_water 74 = .ok (.getfield 238, 3) := by decide +kernel
theorem dX7_water_77 : decode cX7_water 77 = .ok (.ireturn, 1) := by decide +kernel
set_option maxRecDepth 20000 in
theorem ggX7_sky_X2_showerLength : GoodIn wsX7_sky wsX2_showerLength := goodIn_r _ [6, 7, 8, 9, 5, 10, 11, 12, 13, 14, 42, 43, 44, 45, 46, 47, 48, 49] rfl (by decide +kernel)
set_option maxRecDepth 20000 in
theorem gX7_sky_X2_showerLength : GoodIn wsX7_sky (wsV RX7 241 RX2 yX2_showerLength wsX2_showerLength) := goodIn_app (goodIn_of _ (by decide +kernel)) ggX7_sky_X2_showerLength
set_option maxRecDepth 20000 in
theorem ggX7_sky_X2_showerStart : GoodIn wsX7_sky wsX2_showerStart := goodIn_r _ [18, 19, 3, 4, 5, 6, 7, 8, 9, 10, 11, 12, 13, 14, 42, 43, 44, 45, 46, 47, 48, 49] rfl (by decide +kernel)
set_option maxRecDepth 20000 in
theorem gX7_sky_X2_showerStart : GoodIn wsX7_sky (wsV RX7 244 RX2 yX2_showerStart wsX2_showerStart) := goodIn_app (goodIn_of _ (by decide +kernel)) ggX7_sky_X2_showerStart
set_option maxRecDepth 20000 in
theorem ggX7_sky_X2_wetHours : GoodIn wsX7_sky wsX2_wetHours := goodIn_r _ [23, 7, 8, 9, 5, 10, 11, 12, 13, 14, 42, 43, 44, 45, 46, 47, 48, 49] rfl (by decide +kernel)
set_option maxRecDepth 20000 in
theorem gX7_sky_X2_wetHours : GoodIn wsX7_sky (wsV RX7 247 RX2 yX2_wetHours wsX2_wetHours) := goodIn_app (goodIn_of _ (by decide +kernel)) ggX7_sky_X2_wetHours
set_option maxRecDepth 20000 in
theorem ggX7_sky_X2_allRain : GoodIn wsX7_sky wsX2_allRain := goodIn_r _ [27, 7, 8, 9, 5, 10, 11, 12, 13, 14, 42, 43, 44, 45, 46, 47, 48, 49] rfl (by decide +kernel)
set_option maxRecDepth 20000 in
theorem gX7_sky_X2_allRain : GoodIn wsX7_sky (wsV RX7 250 RX2 yX2_allRain wsX2_allRain) := goodIn_app (goodIn_of _ (by decide +kernel)) ggX7_sky_X2_allRain
set_option maxRecDepth 20000 in
theorem ggX7_sky_X2_shutHours : GoodIn wsX7_sky wsX2_shutHours := goodIn_r _ [31, 7, 8, 9, 5, 10, 11, 12, 13, 14, 42, 43, 44, 45, 46, 47, 48, 49] rfl (by decide +kernel)
set_option maxRecDepth 20000 in
theorem gX7_sky_X2_shutHours : GoodIn wsX7_sky (wsV RX7 253 RX2 yX2_shutHours wsX2_shutHours) := goodIn_app (goodIn_of _ (by decide +kernel)) ggX7_sky_X2_shutHours
theorem dX7_sky_0 : decode cX7_sky 0 = .ok (.iload_n 1, 1) := by decide +kernel
theorem dX7_sky_1 : decode cX7_sky 1 = .ok (.ifCond .lt 17, 3) := by decide +kernel
theorem dX7_sky_4 : decode cX7_sky 4 = .ok (.iload_n 1, 1) := by decide +kernel
theorem dX7_sky_5 : decode cX7_sky 5 = .ok (.iconst 2, 1) := by decide +kernel
theorem dX7_sky_6 : decode cX7_sky 6 = .ok (.if_icmp .ge 12, 3) := by decide +kernel
theorem dX7_sky_9 : decode cX7_sky 9 = .ok (.iload_n 2, 1) := by decide +kernel
theorem dX7_sky_10 : decode cX7_sky 10 = .ok (.ifCond .lt 8, 3) := by decide +kernel
theorem dX7_sky_13 : decode cX7_sky 13 = .ok (.iload_n 2, 1) := by decide +kernel
theorem dX7_sky_14 : decode cX7_sky 14 = .ok (.iconst 4, 1) := by decide +kernel
theorem dX7_sky_15 : decode cX7_sky 15 = .ok (.if_icmp .le 6, 3) := by decide +kernel
theorem dX7_sky_18 : decode cX7_sky 18 = .ok (.bipush (-2), 2) := by decide +kernel
theorem dX7_sky_20 : decode cX7_sky 20 = .ok (.ireturn, 1) := by decide +kernel
theorem dX7_sky_21 : decode cX7_sky 21 = .ok (.iload_n 2, 1) := by decide +kernel
theorem dX7_sky_22 : decode cX7_sky 22 = .ok (.tableswitch 66 0 3 #[30, 39, 48, 57], 30) := by decide +kernel
theorem dX7_sky_52 : decode cX7_sky 52 = .ok (.aload_n 0, 1) := by decide +kernel
theorem dX7_sky_53 : decode cX7_sky 53 = .ok (.getfield 10, 3) := by decide +kernel
theorem dX7_sky_56 : decode cX7_sky 56 = .ok (.iload_n 1, 1) := by decide +kernel
theorem dX7_sky_57 : decode cX7_sky 57 = .ok (.invokevirtual 241, 3) := by decide +kernel
theorem dX7_sky_60 : decode cX7_sky 60 = .ok (.ireturn, 1) := by decide +kernel
theorem dX7_sky_61 : decode cX7_sky 61 = .ok (.aload_n 0, 1) := by decide +kernel
theorem dX7_sky_62 : decode cX7_sky 62 = .ok (.getfield 10, 3) := by decide +kernel
theorem dX7_sky_65 : decode cX7_sky 65 = .ok (.iload_n 1, 1) := by decide +kernel
theorem dX7_sky_66 : decode cX7_sky 66 = .ok (.invokevirtual 244, 3) := by decide +kernel
theorem dX7_sky_69 : decode cX7_sky 69 = .ok (.ireturn, 1) := by decide +kernel
theorem dX7_sky_70 : decode cX7_sky 70 = .ok (.aload_n 0, 1) := by decide +kernel
theorem dX7_sky_71 : decode cX7_sky 71 = .ok (.getfield 10, 3) := by decide +kernel
theorem dX7_sky_74 : decode cX7_sky 74 = .ok (.iload_n 1, 1) := by decide +kernel
theorem dX7_sky_75 : decode cX7_sky 75 = .ok (.invokevirtual 247, 3) := by decide +kernel
theorem dX7_sky_78 : decode cX7_sky 78 = .ok (.ireturn, 1) := by decide +kernel
theorem dX7_sky_79 : decode cX7_sky 79 = .ok (.aload_n 0, 1) := by decide +kernel
theorem dX7_sky_80 : decode cX7_sky 80 = .ok (.getfield 10, 3) := by decide +kernel
theorem dX7_sky_83 : decode cX7_sky 83 = .ok (.iload_n 1, 1) := by decide +kernel
theorem dX7_sky_84 : decode cX7_sky 84 = .ok (.invokevirtual 250, 3) := by decide +kernel
theorem dX7_sky_87 : decode cX7_sky 87 = .ok (.ireturn, 1) := by decide +kernel
theorem dX7_sky_88 : decode cX7_sky 88 = .ok (.aload_n 0, 1) := by decide +kernel
theorem dX7_sky_89 : decode cX7_sky 89 = .ok (.getfield 10, 3) := by decide +kernel
theorem dX7_sky_92 : decode cX7_sky 92 = .ok (.invokevirtual 253, 3) := by decide +kernel
theorem dX7_sky_95 : decode cX7_sky 95 = .ok (.ireturn, 1) := by decide +kernel
set_option maxRecDepth 20000 in
theorem ggX7_tells_X7_rowAt : GoodIn wsX7_tells wsX7_rowAt := goodIn_r _ [10, 11, 114, 115, 116, 117, 118, 119, 120, 121, 122, 123] rfl (by decide +kernel)
set_option maxRecDepth 20000 in
theorem gX7_tells_X7_rowAt : GoodIn wsX7_tells (wsV RX7 175 RX7 yX7_rowAt wsX7_rowAt) := goodIn_app (goodIn_of _ (by decide +kernel)) ggX7_tells_X7_rowAt
set_option maxRecDepth 20000 in
theorem ggX7_tells_X2_has : GoodIn wsX7_tells wsX2_has := goodIn_r _ [16, 17, 127, 128, 129, 130, 131, 132, 133, 134] rfl (by decide +kernel)
set_option maxRecDepth 20000 in
theorem gX7_tells_X2_has : GoodIn wsX7_tells (wsV RX7 130 RX2 yX2_has wsX2_has) := goodIn_app (goodIn_of _ (by decide +kernel)) ggX7_tells_X2_has
set_option maxRecDepth 20000 in
theorem ggX7_tells_X7_canTell : GoodIn wsX7_tells wsX7_canTell := goodIn_r _ [21] rfl (by decide +kernel)
set_option maxRecDepth 20000 in
theorem gX7_tells_X7_canTell : GoodIn wsX7_tells (wsV RX7 256 RX7 yX7_canTell wsX7_canTell) := goodIn_app (goodIn_of _ (by decide +kernel)) ggX7_tells_X7_canTell
set_option maxRecDepth 20000 in
theorem ggX7_tells_X7_fitting : GoodIn wsX7_tells wsX7_fitting := goodIn_r _ [25, 1, 5, 26, 27, 28, 29, 30, 4, 31, 32, 33, 9, 34, 35, 36, 37, 38, 15, 39, 17, 40, 41, 42, 43, 44, 45, 46, 47, 48, 49, 50, 51, 52, 53, 54, 55, 56, 57, 58, 59, 60, 61, 62, 63, 64, 65, 66, 67, 68, 69, 70, 71, 72, 73, 74, 75, 76, 77, 78, 79, 80, 81, 82, 83, 84, 85, 86, 87, 88, 89, 90, 91, 92, 93, 94, 95, 96, 97, 98, 99, 100, 101, 102, 103, 104, 105, 106, 107, 108, 109, 110, 111, 112, 113, 114, 115, 116, 117, 118, 119, 120, 121, 122, 123, 127, 128, 129, 130, 131, 132, 133, 134, 135, 136, 137, 138, 124, 125, 126, 139, 140, 141, 142] rfl (by decide +kernel)
set_option maxRecDepth 20000 in
theorem gX7_tells_X7_fitting : GoodIn wsX7_tells (wsV RX7 262 RX7 yX7_fitting wsX7_fitting) := goodIn_app (goodIn_of _ (by decide +kernel)) ggX7_tells_X7_fitting
set_option maxRecDepth 20000 in
theorem ggX7_tells_X2_shakenCount : GoodIn wsX7_tells wsX2_shakenCount := goodIn_r _ [39, 17, 40, 41, 9, 42, 127, 128, 129, 130, 131, 132, 133, 134] rfl (by decide +kernel)
set_option maxRecDepth 20000 in
theorem gX7_tells_X2_shakenCount : GoodIn wsX7_tells (wsV RX7 136 RX2 yX2_shakenCount wsX2_shakenCount) := goodIn_app (goodIn_of _ (by decide +kernel)) ggX7_tells_X2_shakenCount
set_option maxRecDepth 20000 in
theorem ggX7_tells_X0_regard : GoodIn wsX7_tells wsX0_regard := goodIn_r _ [47, 48, 49, 50, 51, 52, 53, 54, 55, 56, 41, 9, 42, 57, 58, 127, 128, 129, 130, 131, 132, 133, 134, 135, 136, 137, 138] rfl (by decide +kernel)
set_option maxRecDepth 20000 in
theorem gX7_tells_X0_regard : GoodIn wsX7_tells (wsV RX7 139 RX0 yX0_regard wsX0_regard) := goodIn_app (goodIn_of _ (by decide +kernel)) ggX7_tells_X0_regard
set_option maxRecDepth 20000 in
theorem ggX7_tells_X0_firstOther : GoodIn wsX7_tells wsX0_firstOther := goodIn_r _ [77, 78, 79, 80, 81, 46, 82, 54, 83, 84, 85, 86, 53, 57, 9, 58, 87, 88, 89, 90, 91, 92, 41, 42, 93, 94, 95, 96, 51, 49, 97, 98, 99, 100, 101, 102, 103, 104, 105, 106, 107, 108, 109, 110, 111, 112, 113, 124, 125, 126, 135, 136, 137, 138, 139, 140, 141, 142] rfl (by decide +kernel)
set_option maxRecDepth 20000 in
theorem gX7_tells_X0_firstOther : GoodIn wsX7_tells (wsV RX7 266 RX0 yX0_firstOther wsX0_firstOther) := goodIn_app (goodIn_of _ (by decide +kernel)) ggX7_tells_X0_firstOther
theorem dX7_tells_0 : decode cX7_tells 0 = .ok (.aload_n 0, 1) := by decide +kernel
theorem dX7_tells_1 : decode cX7_tells 1 = .ok (.iload_n 1, 1) := by decide +kernel
theorem dX7_tells_2 : decode cX7_tells 2 = .ok (.invokevirtual 175, 3) := by decide +kernel
theorem dX7_tells_5 : decode cX7_tells 5 = .ok (.astore 4, 2) := by decide +kernel
theorem dX7_tells_7 : decode cX7_tells 7 = .ok (.aload 4, 2) := by decide +kernel
theorem dX7_tells_9 : decode cX7_tells 9 = .ok (.ifnull 22, 3) := by decide +kernel
theorem dX7_tells_12 : decode cX7_tells 12 = .ok (.aload_n 0, 1) := by decide +kernel
theorem dX7_tells_13 : decode cX7_tells 13 = .ok (.getfield 10, 3) := by decide +kernel
theorem dX7_tells_16 : decode cX7_tells 16 = .ok (.iload_n 2, 1) := by decide +kernel
theorem dX7_tells_17 : decode cX7_tells 17 = .ok (.invokevirtual 130, 3) := by decide +kernel
theorem dX7_tells_20 : decode cX7_tells 20 = .ok (.ifCond .eq 11, 3) := by decide +kernel
theorem dX7_tells_23 : decode cX7_tells 23 = .ok (.aload_n 0, 1) := by decide +kernel
theorem dX7_tells_24 : decode cX7_tells 24 = .ok (.iload_n 3, 1) := by decide +kernel
theorem dX7_tells_25 : decode cX7_tells 25 = .ok (.invokevirtual 256, 3) := by decide +kernel
theorem dX7_tells_28 : decode cX7_tells 28 = .ok (.ifCond .ne 6, 3) := by decide +kernel
theorem dX7_tells_31 : decode cX7_tells 31 = .ok (.bipush (-2), 2) := by decide +kernel
theorem dX7_tells_33 : decode cX7_tells 33 = .ok (.ireturn, 1) := by decide +kernel
theorem dX7_tells_34 : decode cX7_tells 34 = .ok (.aload 4, 2) := by decide +kernel
theorem dX7_tells_36 : decode cX7_tells 36 = .ok (.getfield 259, 3) := by decide +kernel
theorem dX7_tells_39 : decode cX7_tells 39 = .ok (.iconst (-1), 1) := by decide +kernel
theorem dX7_tells_40 : decode cX7_tells 40 = .ok (.if_icmp .ne 6, 3) := by decide +kernel
theorem dX7_tells_43 : decode cX7_tells 43 = .ok (.bipush (-11), 2) := by decide +kernel
theorem dX7_tells_45 : decode cX7_tells 45 = .ok (.ireturn, 1) := by decide +kernel
theorem dX7_tells_46 : decode cX7_tells 46 = .ok (.aload 4, 2) := by decide +kernel
theorem dX7_tells_48 : decode cX7_tells 48 = .ok (.getfield 190, 3) := by decide +kernel
theorem dX7_tells_51 : decode cX7_tells 51 = .ok (.bipush 24, 2) := by decide +kernel
theorem dX7_tells_53 : decode cX7_tells 53 = .ok (.if_icmp .le 6, 3) := by decide +kernel
theorem dX7_tells_56 : decode cX7_tells 56 = .ok (.bipush (-2), 2) := by decide +kernel
theorem dX7_tells_58 : decode cX7_tells 58 = .ok (.ireturn, 1) := by decide +kernel
theorem dX7_tells_59 : decode cX7_tells 59 = .ok (.iload_n 3, 1) := by decide +kernel
theorem dX7_tells_60 : decode cX7_tells 60 = .ok (.ifCond .eq 12, 3) := by decide +kernel
theorem dX7_tells_63 : decode cX7_tells 63 = .ok (.aload_n 0, 1) := by decide +kernel
theorem dX7_tells_64 : decode cX7_tells 64 = .ok (.aload 4, 2) := by decide +kernel
theorem dX7_tells_66 : decode cX7_tells 66 = .ok (.iload_n 2, 1) := by decide +kernel
theorem dX7_tells_67 : decode cX7_tells 67 = .ok (.iload_n 3, 1) := by decide +kernel
theorem dX7_tells_68 : decode cX7_tells 68 = .ok (.invokevirtual 262, 3) := by decide +kernel
theorem dX7_tells_71 : decode cX7_tells 71 = .ok (.ireturn, 1) := by decide +kernel
theorem dX7_tells_72 : decode cX7_tells 72 = .ok (.aload_n 0, 1) := by decide +kernel
theorem dX7_tells_73 : decode cX7_tells 73 = .ok (.getfield 41, 3) := by decide +kernel
theorem dX7_tells_76 : decode cX7_tells 76 = .ok (.aload_n 0, 1) := by decide +kernel
theorem dX7_tells_77 : decode cX7_tells 77 = .ok (.getfield 10, 3) := by decide +kernel
theorem dX7_tells_80 : decode cX7_tells 80 = .ok (.iload_n 2, 1) := by decide +kernel
theorem dX7_tells_81 : decode cX7_tells 81 = .ok (.aload_n 0, 1) := by decide +kernel
theorem dX7_tells_82 : decode cX7_tells 82 = .ok (.getfield 10, 3) := by decide +kernel
theorem dX7_tells_85 : decode cX7_tells 85 = .ok (.invokevirtual 136, 3) := by decide +kernel
theorem dX7_tells_88 : decode cX7_tells 88 = .ok (.invokevirtual 139, 3) := by decide +kernel
theorem dX7_tells_91 : decode cX7_tells 91 = .ok (.aload_n 0, 1) := by decide +kernel
theorem dX7_tells_92 : decode cX7_tells 92 = .ok (.getfield 41, 3) := by decide +kernel
theorem dX7_tells_95 : decode cX7_tells 95 = .ok (.aload 4, 2) := by decide +kernel
theorem dX7_tells_97 : decode cX7_tells 97 = .ok (.aload_n 0, 1) := by decide +kernel
theorem dX7_tells_98 : decode cX7_tells 98 = .ok (.getfield 10, 3) := by decide +kernel
theorem dX7_tells_101 : decode cX7_tells 101 = .ok (.getfield 99, 3) := by decide +kernel
theorem dX7_tells_104 : decode cX7_tells 104 = .ok (.invokevirtual 266, 3) := by decide +kernel
theorem dX7_tells_107 : decode cX7_tells 107 = .ok (.ireturn, 1) := by decide +kernel
set_option maxRecDepth 20000 in
theorem ggX7_film_X7_rowAt : GoodIn wsX7_film wsX7_rowAt := goodIn_r _ [8, 9, 84, 85, 86, 87, 88, 89, 90, 91, 92, 93] rfl (by decide +kernel)
set_option maxRecDepth 20000 in
theorem gX7_film_X7_rowAt : GoodIn wsX7_film (wsV RX7 175 RX7 yX7_rowAt wsX7_rowAt) := goodIn_app (goodIn_of _ (by decide +kernel)) ggX7_film_X7_rowAt
set_option maxRecDepth 20000 in
theorem ggX7_film_X2_has : GoodIn wsX7_film wsX2_has := goodIn_r _ [14, 15, 94, 95, 96, 97, 98, 99, 100, 101] rfl (by decide +kernel)
set_option maxRecDepth 20000 in
theorem gX7_film_X2_has : GoodIn wsX7_film (wsV RX7 130 RX2 yX2_has wsX2_has) := goodIn_app (goodIn_of _ (by decide +kernel)) ggX7_film_X2_has
set_option maxRecDepth 20000 in
theorem ggX7_film_X5_renew : GoodIn wsX7_film wsX5_renew := goodIn_r _ [20, 21, 22, 23, 24, 7, 25, 26, 27, 28, 29, 102, 103, 104] rfl (by decide +kernel)
set_option maxRecDepth 20000 in
theorem gX7_film_X5_renew : GoodIn wsX7_film (wsV RX7 270 RX5 yX5_renew wsX5_renew) := goodIn_app (goodIn_of _ (by decide +kernel)) ggX7_film_X5_renew
set_option maxRecDepth 20000 in
theorem ggX7_film_X2_shakenCount : GoodIn wsX7_film wsX2_shakenCount := goodIn_r _ [33, 15, 34, 35, 7, 36, 94, 95, 96, 97, 98, 99, 100, 101] rfl (by decide +kernel)
set_option maxRecDepth 20000 in
theorem gX7_film_X2_shakenCount : GoodIn wsX7_film (wsV RX7 136 RX2 yX2_shakenCount wsX2_shakenCount) := goodIn_app (goodIn_of _ (by decide +kernel)) ggX7_film_X2_shakenCount
set_option maxRecDepth 20000 in
theorem ggX7_film_X0_regard : GoodIn wsX7_film wsX0_regard := goodIn_r _ [41, 42, 43, 44, 45, 46, 47, 48, 49, 50, 35, 7, 36, 51, 52, 94, 95, 96, 97, 98, 99, 100, 101, 105, 106, 107, 108] rfl (by decide +kernel)
set_option maxRecDepth 20000 in
theorem gX7_film_X0_regard : GoodIn wsX7_film (wsV RX7 139 RX0 yX0_regard wsX0_regard) := goodIn_app (goodIn_of _ (by decide +kernel)) ggX7_film_X0_regard
set_option maxRecDepth 20000 in
theorem ggX7_film_X0_see : GoodIn wsX7_film wsX0_see := goodIn_r _ [56, 48, 57, 58, 59, 40, 60, 47, 51, 7, 52, 105, 106, 107, 108] rfl (by decide +kernel)
set_option maxRecDepth 20000 in
theorem gX7_film_X0_see : GoodIn wsX7_film (wsV RX7 143 RX0 yX0_see wsX0_see) := goodIn_app (goodIn_of _ (by decide +kernel)) ggX7_film_X0_see
set_option maxRecDepth 20000 in
theorem ggX7_film_X0_worth : GoodIn wsX7_film wsX0_worth := goodIn_r _ [64, 45, 48, 43, 65, 66, 67, 68, 69, 70, 71, 72, 35, 7, 36, 51, 52, 73, 74, 75, 24, 25, 76, 77, 78, 79, 105, 106, 107, 108, 109, 110, 111, 112] rfl (by decide +kernel)
set_option maxRecDepth 20000 in
theorem gX7_film_X0_worth : GoodIn wsX7_film (wsV RX7 156 RX0 yX0_worth wsX0_worth) := goodIn_app (goodIn_of _ (by decide +kernel)) ggX7_film_X0_worth
set_option maxRecDepth 20000 in
theorem ggX7_film_X5_write : GoodIn wsX7_film wsX5_write := goodIn_r _ [83, 23, 22, 21, 102, 103, 104] rfl (by decide +kernel)
set_option maxRecDepth 20000 in
theorem gX7_film_X5_write : GoodIn wsX7_film (wsV RX7 274 RX5 yX5_write wsX5_write) := goodIn_app (goodIn_of _ (by decide +kernel)) ggX7_film_X5_write
theorem dX7_film_0 : decode cX7_film 0 = .ok (.aload_n 0, 1) := by decide +kernel
theorem dX7_film_1 : decode cX7_film 1 = .ok (.iload_n 1, 1) := by decide +kernel
theorem dX7_film_2 : decode cX7_film 2 = .ok (.invokevirtual 175, 3) := by decide +kernel
theorem dX7_film_5 : decode cX7_film 5 = .ok (.astore 4, 2) := by decide +kernel
theorem dX7_film_7 : decode cX7_film 7 = .ok (.aload 4, 2) := by decide +kernel
theorem dX7_film_9 : decode cX7_film 9 = .ok (.ifnull 24, 3) := by decide +kernel
theorem dX7_film_12 : decode cX7_film 12 = .ok (.aload_n 0, 1) := by decide +kernel
theorem dX7_film_13 : decode cX7_film 13 = .ok (.getfield 10, 3) := by decide +kernel
theorem dX7_film_16 : decode cX7_film 16 = .ok (.iload_n 2, 1) := by decide +kernel
theorem dX7_film_17 : decode cX7_film 17 = .ok (.invokevirtual 130, 3) := by decide +kernel
theorem dX7_film_20 : decode cX7_film 20 = .ok (.ifCond .eq 13, 3) := by decide +kernel
theorem dX7_film_23 : decode cX7_film 23 = .ok (.iload_n 3, 1) := by decide +kernel
theorem dX7_film_24 : decode cX7_film 24 = .ok (.ifCond .lt 9, 3) := by decide +kernel
theorem dX7_film_27 : decode cX7_film 27 = .ok (.iload_n 3, 1) := by decide +kernel
theorem dX7_film_28 : decode cX7_film 28 = .ok (.bipush 24, 2) := by decide +kernel
theorem dX7_film_30 : decode cX7_film 30 = .ok (.if_icmp .le 6, 3) := by decide +kernel
theorem dX7_film_33 : decode cX7_film 33 = .ok (.bipush (-2), 2) := by decide +kernel
theorem dX7_film_35 : decode cX7_film 35 = .ok (.ireturn, 1) := by decide +kernel
theorem dX7_film_36 : decode cX7_film 36 = .ok (.aload 4, 2) := by decide +kernel
theorem dX7_film_38 : decode cX7_film 38 = .ok (.iconst 1, 1) := by decide +kernel
theorem dX7_film_39 : decode cX7_film 39 = .ok (.iload_n 3, 1) := by decide +kernel
theorem dX7_film_40 : decode cX7_film 40 = .ok (.invokevirtual 270, 3) := by decide +kernel
theorem dX7_film_43 : decode cX7_film 43 = .ok (.aload_n 0, 1) := by decide +kernel
theorem dX7_film_44 : decode cX7_film 44 = .ok (.getfield 41, 3) := by decide +kernel
theorem dX7_film_47 : decode cX7_film 47 = .ok (.aload_n 0, 1) := by decide +kernel
theorem dX7_film_48 : decode cX7_film 48 = .ok (.getfield 10, 3) := by decide +kernel
theorem dX7_film_51 : decode cX7_film 51 = .ok (.iload_n 2, 1) := by decide +kernel
theorem dX7_film_52 : decode cX7_film 52 = .ok (.aload_n 0, 1) := by decide +kernel
theorem dX7_film_53 : decode cX7_film 53 = .ok (.getfield 10, 3) := by decide +kernel
theorem dX7_film_56 : decode cX7_film 56 = .ok (.invokevirtual 136, 3) := by decide +kernel
theorem dX7_film_59 : decode cX7_film 59 = .ok (.invokevirtual 139, 3) := by decide +kernel
theorem dX7_film_62 : decode cX7_film 62 = .ok (.iconst 0, 1) := by decide +kernel
theorem dX7_film_63 : decode cX7_film 63 = .ok (.istore 5, 2) := by decide +kernel
theorem dX7_film_65 : decode cX7_film 65 = .ok (.iload 5, 2) := by decide +kernel
theorem dX7_film_67 : decode cX7_film 67 = .ok (.iload_n 3, 1) := by decide +kernel
theorem dX7_film_68 : decode cX7_film 68 = .ok (.if_icmp .ge 40, 3) := by decide +kernel
theorem dX7_film_71 : decode cX7_film 71 = .ok (.aload_n 0, 1) := by decide +kernel
theorem dX7_film_72 : decode cX7_film 72 = .ok (.getfield 41, 3) := by decide +kernel
theorem dX7_film_75 : decode cX7_film 75 = .ok (.aload_n 0, 1) := by decide +kernel
theorem dX7_film_76 : decode cX7_film 76 = .ok (.getfield 10, 3) := by decide +kernel
theorem dX7_film_79 : decode cX7_film 79 = .ok (.getfield 99, 3) := by decide +kernel
theorem dX7_film_82 : decode cX7_film 82 = .ok (.iload 5, 2) := by decide +kernel
theorem dX7_film_84 : decode cX7_film 84 = .ok (.invokevirtual 143, 3) := by decide +kernel
theorem dX7_film_87 : decode cX7_film 87 = .ok (.aload 4, 2) := by decide +kernel
theorem dX7_film_89 : decode cX7_film 89 = .ok (.iload 5, 2) := by decide +kernel
theorem dX7_film_91 : decode cX7_film 91 = .ok (.aload_n 0, 1) := by decide +kernel
theorem dX7_film_92 : decode cX7_film 92 = .ok (.getfield 41, 3) := by decide +kernel
theorem dX7_film_95 : decode cX7_film 95 = .ok (.invokevirtual 156, 3) := by decide +kernel
theorem dX7_film_98 : decode cX7_film 98 = .ok (.invokevirtual 274, 3) := by decide +kernel
theorem dX7_film_101 : decode cX7_film 101 = .ok (.pop, 1) := by decide +kernel
theorem dX7_film_102 : decode cX7_film 102 = .ok (.iinc 5 1, 3) := by decide +kernel
theorem dX7_film_105 : decode cX7_film 105 = .ok (.goto (-40), 3) := by decide +kernel
theorem dX7_film_108 : decode cX7_film 108 = .ok (.iload_n 3, 1) := by decide +kernel
theorem dX7_film_109 : decode cX7_film 109 = .ok (.ireturn, 1) := by decide +kernel
set_option maxRecDepth 20000 in
theorem ggX7_drawn_X3_draw : GoodIn wsX7_drawn wsX3_draw := goodIn_r _ [9, 10, 11, 131, 132, 133, 134, 135, 136, 137, 138, 139, 140, 141, 142, 143, 144, 145, 146, 147] rfl (by decide +kernel)
set_option maxRecDepth 20000 in
theorem gX7_drawn_X3_draw : GoodIn wsX7_drawn (wsV RX7 277 RX3 yX3_draw wsX3_draw) := goodIn_app (goodIn_of _ (by decide +kernel)) ggX7_drawn_X3_draw
set_option maxRecDepth 20000 in
theorem ggX7_drawn_X3_lineUp : GoodIn wsX7_drawn wsX3_lineUp := goodIn_r _ [15, 16, 17, 18, 19, 20, 21, 22, 23, 24, 25, 26, 27, 28, 29, 30, 131, 132, 133, 134, 135, 136, 137, 138, 139, 140, 141, 142, 143, 144, 145, 146, 147, 148, 149, 150, 151, 152, 153, 154, 155] rfl (by decide +kernel)
set_option maxRecDepth 20000 in
theorem gX7_drawn_X3_lineUp : GoodIn wsX7_drawn (wsV RX7 284 RX3 yX3_lineUp wsX3_lineUp) := goodIn_app (goodIn_of _ (by decide +kernel)) ggX7_drawn_X3_lineUp
set_option maxRecDepth 20000 in
theorem ggX7_drawn_X3_run : GoodIn wsX7_drawn wsX3_run := goodIn_r _ [34, 35, 36, 37, 38, 39, 10, 40, 41, 42, 20, 43, 22, 23, 24, 25, 26, 44, 45, 46, 47, 48, 49, 50, 51, 52, 53, 54, 55, 56, 57, 58, 59, 60, 61, 62, 63, 64, 29, 30, 65, 66, 67, 68, 69, 70, 71, 72, 73, 74, 75, 76, 77, 78, 79, 80, 81, 82, 83, 84, 85, 86, 87, 88, 89, 90, 91, 92, 93, 94, 95, 96, 97, 98, 99, 100, 101, 102, 103, 104, 105, 106, 107, 108, 109, 110, 111, 112, 113, 114, 115, 116, 117, 118, 119, 120, 131, 132, 133, 134, 135, 136, 137, 138, 139, 140, 141, 142, 143, 144, 145, 146, 147, 148, 149, 150, 151, 152, 153, 154, 155, 156, 157, 158, 159, 160, 161, 162, 163] rfl (by decide +kernel)
set_option maxRecDepth 20000 in
theorem gX7_drawn_X3_run : GoodIn wsX7_drawn (wsV RX7 191 RX3 yX3_run wsX3_run) := goodIn_app (goodIn_of _ (by decide +kernel)) ggX7_drawn_X3_run
theorem dX7_drawn_0 : decode cX7_drawn 0 = .ok (.aload_n 0, 1) := by decide +kernel
theorem dX7_drawn_1 : decode cX7_drawn 1 = .ok (.getfield 48, 3) := by decide +kernel
theorem dX7_drawn_4 : decode cX7_drawn 4 = .ok (.iload_n 1, 1) := by decide +kernel
theorem dX7_drawn_5 : decode cX7_drawn 5 = .ok (.invokevirtual 277, 3) := by decide +kernel
theorem dX7_drawn_8 : decode cX7_drawn 8 = .ok (.aload_n 0, 1) := by decide +kernel
theorem dX7_drawn_9 : decode cX7_drawn 9 = .ok (.getfield 48, 3) := by decide +kernel
theorem dX7_drawn_12 : decode cX7_drawn 12 = .ok (.aload_n 0, 1) := by decide +kernel
theorem dX7_drawn_13 : decode cX7_drawn 13 = .ok (.getfield 10, 3) := by decide +kernel
theorem dX7_drawn_16 : decode cX7_drawn 16 = .ok (.aload_n 0, 1) := by decide +kernel
theorem dX7_drawn_17 : decode cX7_drawn 17 = .ok (.getfield 48, 3) := by decide +kernel
theorem dX7_drawn_20 : decode cX7_drawn 20 = .ok (.getfield 281, 3) := by decide +kernel
theorem dX7_drawn_23 : decode cX7_drawn 23 = .ok (.aload_n 0, 1) := by decide +kernel
theorem dX7_drawn_24 : decode cX7_drawn 24 = .ok (.getfield 48, 3) := by decide +kernel
theorem dX7_drawn_27 : decode cX7_drawn 27 = .ok (.aload_n 0, 1) := by decide +kernel
theorem dX7_drawn_28 : decode cX7_drawn 28 = .ok (.getfield 10, 3) := by decide +kernel
theorem dX7_drawn_31 : decode cX7_drawn 31 = .ok (.invokevirtual 284, 3) := by decide +kernel
theorem dX7_drawn_34 : decode cX7_drawn 34 = .ok (.invokevirtual 191, 3) := by decide +kernel
theorem dX7_drawn_37 : decode cX7_drawn 37 = .ok (.aload_n 0, 1) := by decide +kernel
theorem dX7_drawn_38 : decode cX7_drawn 38 = .ok (.getfield 48, 3) := by decide +kernel
theorem dX7_drawn_41 : decode cX7_drawn 41 = .ok (.getfield 195, 3) := by decide +kernel
theorem dX7_drawn_44 : decode cX7_drawn 44 = .ok (.ireturn, 1) := by decide +kernel
set_option maxRecDepth 20000 in
theorem ggX7_chance_X3_draw : GoodIn wsX7_chance wsX3_draw := goodIn_r _ [10, 11, 12, 135, 136, 137, 138, 139, 140, 141, 142, 143, 144, 145, 146, 147, 148, 149, 150, 151] rfl (by decide +kernel)
set_option maxRecDepth 20000 in
theorem gX7_chance_X3_draw : GoodIn wsX7_chance (wsV RX7 277 RX3 yX3_draw wsX3_draw) := goodIn_app (goodIn_of _ (by decide +kernel)) ggX7_chance_X3_draw
set_option maxRecDepth 20000 in
theorem ggX7_chance_X3_lineUp : GoodIn wsX7_chance wsX3_lineUp := goodIn_r _ [16, 17, 18, 19, 20, 21, 22, 23, 24, 25, 26, 27, 28, 29, 30, 31, 135, 136, 137, 138, 139, 140, 141, 142, 143, 144, 145, 146, 147, 148, 149, 150, 151, 152, 153, 154, 155, 156, 157, 158, 159] rfl (by decide +kernel)
set_option maxRecDepth 20000 in
theorem gX7_chance_X3_lineUp : GoodIn wsX7_chance (wsV RX7 284 RX3 yX3_lineUp wsX3_lineUp) := goodIn_app (goodIn_of _ (by decide +kernel)) ggX7_chance_X3_lineUp
set_option maxRecDepth 20000 in
theorem ggX7_chance_X3_run : GoodIn wsX7_chance wsX3_run := goodIn_r _ [35, 36, 37, 38, 39, 40, 11, 41, 42, 43, 21, 44, 23, 24, 25, 26, 27, 45, 46, 47, 48, 49, 50, 51, 52, 53, 54, 55, 56, 57, 58, 59, 60, 61, 62, 63, 64, 65, 30, 31, 66, 67, 68, 69, 70, 71, 72, 73, 74, 75, 76, 77, 78, 79, 80, 81, 82, 83, 84, 85, 86, 87, 88, 89, 90, 91, 92, 93, 94, 95, 96, 97, 98, 99, 100, 101, 102, 103, 104, 105, 106, 107, 108, 109, 110, 111, 112, 113, 114, 115, 116, 117, 118, 119, 120, 121, 135, 136, 137, 138, 139, 140, 141, 142, 143, 144, 145, 146, 147, 148, 149, 150, 151, 152, 153, 154, 155, 156, 157, 158, 159, 160, 161, 162, 163, 164, 165, 166, 167] rfl (by decide +kernel)
set_option maxRecDepth 20000 in
theorem gX7_chance_X3_run : GoodIn wsX7_chance (wsV RX7 191 RX3 yX3_run wsX3_run) := goodIn_app (goodIn_of _ (by decide +kernel)) ggX7_chance_X3_run
set_option maxRecDepth 20000 in
theorem ggX7_chance_X7_commonDivisor : GoodIn wsX7_chance wsX7_commonDivisor := goodIn_r _ [124] rfl (by decide +kernel)
set_option maxRecDepth 20000 in
theorem gX7_chance_X7_commonDivisor : GoodIn wsX7_chance (va_wsS RX7 290 yX7_commonDivisor wsX7_commonDivisor) := goodIn_app (goodIn_of _ (by decide +kernel)) ggX7_chance_X7_commonDivisor
theorem dX7_chance_0 : decode cX7_chance 0 = .ok (.iload_n 2, 1) := by decide +kernel
theorem dX7_chance_1 : decode cX7_chance 1 = .ok (.iconst 1, 1) := by decide +kernel
theorem dX7_chance_2 : decode cX7_chance 2 = .ok (.if_icmp .lt 31, 3) := by decide +kernel
theorem dX7_chance_5 : decode cX7_chance 5 = .ok (.iload_n 2, 1) := by decide +kernel
theorem dX7_chance_6 : decode cX7_chance 6 = .ok (.bipush 20, 2) := by decide +kernel
theorem dX7_chance_8 : decode cX7_chance 8 = .ok (.if_icmp .gt 25, 3) := by decide +kernel
theorem dX7_chance_11 : decode cX7_chance 11 = .ok (.iload_n 3, 1) := by decide +kernel
theorem dX7_chance_12 : decode cX7_chance 12 = .ok (.ifCond .lt 21, 3) := by decide +kernel
theorem dX7_chance_15 : decode cX7_chance 15 = .ok (.iload_n 3, 1) := by decide +kernel
theorem dX7_chance_16 : decode cX7_chance 16 = .ok (.sipush 9999, 3) := by decide +kernel
theorem dX7_chance_19 : decode cX7_chance 19 = .ok (.if_icmp .gt 14, 3) := by decide +kernel
theorem dX7_chance_22 : decode cX7_chance 22 = .ok (.iload 4, 2) := by decide +kernel
theorem dX7_chance_24 : decode cX7_chance 24 = .ok (.ifCond .lt 9, 3) := by decide +kernel
theorem dX7_chance_27 : decode cX7_chance 27 = .ok (.iload 4, 2) := by decide +kernel
theorem dX7_chance_29 : decode cX7_chance 29 = .ok (.iconst 1, 1) := by decide +kernel
theorem dX7_chance_30 : decode cX7_chance 30 = .ok (.if_icmp .le 7, 3) := by decide +kernel
theorem dX7_chance_33 : decode cX7_chance 33 = .ok (.ldc2_w 288, 3) := by decide +kernel
theorem dX7_chance_36 : decode cX7_chance 36 = .ok (.lreturn, 1) := by decide +kernel
theorem dX7_chance_37 : decode cX7_chance 37 = .ok (.iconst 0, 1) := by decide +kernel
theorem dX7_chance_38 : decode cX7_chance 38 = .ok (.istore 5, 2) := by decide +kernel
theorem dX7_chance_40 : decode cX7_chance 40 = .ok (.iconst 0, 1) := by decide +kernel
theorem dX7_chance_41 : decode cX7_chance 41 = .ok (.istore 6, 2) := by decide +kernel
theorem dX7_chance_43 : decode cX7_chance 43 = .ok (.iload 6, 2) := by decide +kernel
theorem dX7_chance_45 : decode cX7_chance 45 = .ok (.iload_n 2, 1) := by decide +kernel
theorem dX7_chance_46 : decode cX7_chance 46 = .ok (.if_icmp .ge 70, 3) := by decide +kernel
theorem dX7_chance_49 : decode cX7_chance 49 = .ok (.aload_n 0, 1) := by decide +kernel
theorem dX7_chance_50 : decode cX7_chance 50 = .ok (.getfield 48, 3) := by decide +kernel
theorem dX7_chance_53 : decode cX7_chance 53 = .ok (.iload_n 1, 1) := by decide +kernel
theorem dX7_chance_54 : decode cX7_chance 54 = .ok (.iload 6, 2) := by decide +kernel
theorem dX7_chance_56 : decode cX7_chance 56 = .ok (.iadd, 1) := by decide +kernel
theorem dX7_chance_57 : decode cX7_chance 57 = .ok (.invokevirtual 277, 3) := by decide +kernel
theorem dX7_chance_60 : decode cX7_chance 60 = .ok (.aload_n 0, 1) := by decide +kernel
theorem dX7_chance_61 : decode cX7_chance 61 = .ok (.getfield 48, 3) := by decide +kernel
theorem dX7_chance_64 : decode cX7_chance 64 = .ok (.aload_n 0, 1) := by decide +kernel
theorem dX7_chance_65 : decode cX7_chance 65 = .ok (.getfield 10, 3) := by decide +kernel
theorem dX7_chance_68 : decode cX7_chance 68 = .ok (.aload_n 0, 1) := by decide +kernel
theorem dX7_chance_69 : decode cX7_chance 69 = .ok (.getfield 48, 3) := by decide +kernel
theorem dX7_chance_72 : decode cX7_chance 72 = .ok (.getfield 281, 3) := by decide +kernel
theorem dX7_chance_75 : decode cX7_chance 75 = .ok (.aload_n 0, 1) := by decide +kernel
theorem dX7_chance_76 : decode cX7_chance 76 = .ok (.getfield 48, 3) := by decide +kernel
theorem dX7_chance_79 : decode cX7_chance 79 = .ok (.aload_n 0, 1) := by decide +kernel
theorem dX7_chance_80 : decode cX7_chance 80 = .ok (.getfield 10, 3) := by decide +kernel
theorem dX7_chance_83 : decode cX7_chance 83 = .ok (.invokevirtual 284, 3) := by decide +kernel
theorem dX7_chance_86 : decode cX7_chance 86 = .ok (.invokevirtual 191, 3) := by decide +kernel
theorem dX7_chance_89 : decode cX7_chance 89 = .ok (.iload 5, 2) := by decide +kernel
theorem dX7_chance_91 : decode cX7_chance 91 = .ok (.aload_n 0, 1) := by decide +kernel
theorem dX7_chance_92 : decode cX7_chance 92 = .ok (.getfield 48, 3) := by decide +kernel
theorem dX7_chance_95 : decode cX7_chance 95 = .ok (.getfield 195, 3) := by decide +kernel
theorem dX7_chance_98 : decode cX7_chance 98 = .ok (.iload_n 3, 1) := by decide +kernel
theorem dX7_chance_99 : decode cX7_chance 99 = .ok (.if_icmp .lt 7, 3) := by decide +kernel
theorem dX7_chance_102 : decode cX7_chance 102 = .ok (.iconst 1, 1) := by decide +kernel
theorem dX7_chance_103 : decode cX7_chance 103 = .ok (.goto 4, 3) := by decide +kernel
theorem dX7_chance_106 : decode cX7_chance 106 = .ok (.iconst 0, 1) := by decide +kernel
theorem dX7_chance_107 : decode cX7_chance 107 = .ok (.iadd, 1) := by decide +kernel
theorem dX7_chance_108 : decode cX7_chance 108 = .ok (.istore 5, 2) := by decide +kernel
theorem dX7_chance_110 : decode cX7_chance 110 = .ok (.iinc 6 1, 3) := by decide +kernel
theorem dX7_chance_113 : decode cX7_chance 113 = .ok (.goto (-70), 3) := by decide +kernel
theorem dX7_chance_116 : decode cX7_chance 116 = .ok (.iload 5, 2) := by decide +kernel
theorem dX7_chance_118 : decode cX7_chance 118 = .ok (.iload_n 2, 1) := by decide +kernel
theorem dX7_chance_119 : decode cX7_chance 119 = .ok (.invokestatic 290, 3) := by decide +kernel
theorem dX7_chance_122 : decode cX7_chance 122 = .ok (.istore 6, 2) := by decide +kernel
theorem dX7_chance_124 : decode cX7_chance 124 = .ok (.iload 6, 2) := by decide +kernel
theorem dX7_chance_126 : decode cX7_chance 126 = .ok (.iconst 1, 1) := by decide +kernel
theorem dX7_chance_127 : decode cX7_chance 127 = .ok (.if_icmp .ge 7, 3) := by decide +kernel
theorem dX7_chance_130 : decode cX7_chance 130 = .ok (.ldc2_w 288, 3) := by decide +kernel
theorem dX7_chance_133 : decode cX7_chance 133 = .ok (.lreturn, 1) := by decide +kernel
theorem dX7_chance_134 : decode cX7_chance 134 = .ok (.iload 4, 2) := by decide +kernel
theorem dX7_chance_136 : decode cX7_chance 136 = .ok (.ifCond .ne 12, 3) := by decide +kernel
theorem dX7_chance_139 : decode cX7_chance 139 = .ok (.iload 5, 2) := by decide +kernel
theorem dX7_chance_141 : decode cX7_chance 141 = .ok (.iload 6, 2) := by decide +kernel
theorem dX7_chance_143 : decode cX7_chance 143 = .ok (.idiv, 1) := by decide +kernel
theorem dX7_chance_144 : decode cX7_chance 144 = .ok (.i2l, 1) := by decide +kernel
theorem dX7_chance_145 : decode cX7_chance 145 = .ok (.goto 8, 3) := by decide +kernel
theorem dX7_chance_148 : decode cX7_chance 148 = .ok (.iload_n 2, 1) := by decide +kernel
theorem dX7_chance_149 : decode cX7_chance 149 = .ok (.iload 6, 2) := by decide +kernel
theorem dX7_chance_151 : decode cX7_chance 151 = .ok (.idiv, 1) := by decide +kernel
theorem dX7_chance_152 : decode cX7_chance 152 = .ok (.i2l, 1) := by decide +kernel
theorem dX7_chance_153 : decode cX7_chance 153 = .ok (.lreturn, 1) := by decide +kernel
set_option maxRecDepth 20000 in
theorem ggX7_image_X2_become : GoodIn wsX7_image wsX2_become := goodIn_r _ [9, 10, 11, 12, 13, 14, 15, 16, 17, 18, 19, 20, 21, 32, 33, 34, 35, 36, 37, 38, 39] rfl (by decide +kernel)
set_option maxRecDepth 20000 in
theorem gX7_image_X2_become : GoodIn wsX7_image (wsV RX7 293 RX2 yX2_become wsX2_become) := goodIn_app (goodIn_of _ (by decide +kernel)) ggX7_image_X2_become
theorem dX7_image_0 : decode cX7_image 0 = .ok (.aload_n 0, 1) := by decide +kernel
theorem dX7_image_1 : decode cX7_image 1 = .ok (.getfield 16, 3) := by decide +kernel
theorem dX7_image_4 : decode cX7_image 4 = .ok (.aload_n 0, 1) := by decide +kernel
theorem dX7_image_5 : decode cX7_image 5 = .ok (.getfield 10, 3) := by decide +kernel
theorem dX7_image_8 : decode cX7_image 8 = .ok (.invokevirtual 293, 3) := by decide +kernel
theorem dX7_image_11 : decode cX7_image 11 = .ok (.aload_n 0, 1) := by decide +kernel
theorem dX7_image_12 : decode cX7_image 12 = .ok (.iconst 1, 1) := by decide +kernel
theorem dX7_image_13 : decode cX7_image 13 = .ok (.putfield 296, 3) := by decide +kernel
theorem dX7_image_16 : decode cX7_image 16 = .ok (.aload_n 0, 1) := by decide +kernel
theorem dX7_image_17 : decode cX7_image 17 = .ok (.getfield 10, 3) := by decide +kernel
theorem dX7_image_20 : decode cX7_image 20 = .ok (.getfield 123, 3) := by decide +kernel
theorem dX7_image_23 : decode cX7_image 23 = .ok (.ireturn, 1) := by decide +kernel
set_option maxRecDepth 20000 in
theorem ggX7_back_X2_become : GoodIn wsX7_back wsX2_become := goodIn_r _ [9, 10, 11, 12, 13, 14, 15, 16, 17, 18, 19, 20, 21, 32, 33, 34, 35, 36, 37, 38, 39] rfl (by decide +kernel)
set_option maxRecDepth 20000 in
theorem gX7_back_X2_become : GoodIn wsX7_back (wsV RX7 293 RX2 yX2_become wsX2_become) := goodIn_app (goodIn_of _ (by decide +kernel)) ggX7_back_X2_become
theorem dX7_back_0 : decode cX7_back 0 = .ok (.aload_n 0, 1) := by decide +kernel
theorem dX7_back_1 : decode cX7_back 1 = .ok (.getfield 296, 3) := by decide +kernel
theorem dX7_back_4 : decode cX7_back 4 = .ok (.ifCond .ne 6, 3) := by decide +kernel
theorem dX7_back_7 : decode cX7_back 7 = .ok (.bipush (-3), 2) := by decide +kernel
theorem dX7_back_9 : decode cX7_back 9 = .ok (.ireturn, 1) := by decide +kernel
theorem dX7_back_10 : decode cX7_back 10 = .ok (.aload_n 0, 1) := by decide +kernel
theorem dX7_back_11 : decode cX7_back 11 = .ok (.getfield 10, 3) := by decide +kernel
theorem dX7_back_14 : decode cX7_back 14 = .ok (.aload_n 0, 1) := by decide +kernel
theorem dX7_back_15 : decode cX7_back 15 = .ok (.getfield 16, 3) := by decide +kernel
theorem dX7_back_18 : decode cX7_back 18 = .ok (.invokevirtual 293, 3) := by decide +kernel
theorem dX7_back_21 : decode cX7_back 21 = .ok (.aload_n 0, 1) := by decide +kernel
theorem dX7_back_22 : decode cX7_back 22 = .ok (.getfield 10, 3) := by decide +kernel
theorem dX7_back_25 : decode cX7_back 25 = .ok (.getfield 123, 3) := by decide +kernel
theorem dX7_back_28 : decode cX7_back 28 = .ok (.ireturn, 1) := by decide +kernel
set_option maxRecDepth 20000 in
theorem ggX7_count_X2_shakenCount : GoodIn wsX7_count wsX2_shakenCount := goodIn_r _ [10, 11, 12, 13, 14, 15, 41, 42, 43, 44, 45, 46, 47, 48] rfl (by decide +kernel)
set_option maxRecDepth 20000 in
theorem gX7_count_X2_shakenCount : GoodIn wsX7_count (wsV RX7 136 RX2 yX2_shakenCount wsX2_shakenCount) := goodIn_app (goodIn_of _ (by decide +kernel)) ggX7_count_X2_shakenCount
set_option maxRecDepth 20000 in
theorem ggX7_count_X2_wetHours : GoodIn wsX7_count wsX2_wetHours := goodIn_r _ [19, 20, 21, 22, 9, 23, 24, 13, 14, 15, 41, 42, 43, 44, 45, 46, 47, 48] rfl (by decide +kernel)
set_option maxRecDepth 20000 in
theorem gX7_count_X2_wetHours : GoodIn wsX7_count (wsV RX7 247 RX2 yX2_wetHours wsX2_wetHours) := goodIn_app (goodIn_of _ (by decide +kernel)) ggX7_count_X2_wetHours
set_option maxRecDepth 20000 in
theorem ggX7_count_X7_ruleNumber : GoodIn wsX7_count wsX7_ruleNumber := goodIn_r _ [28, 1, 29, 30, 31, 32, 33, 34, 35, 36, 37, 38, 39, 40, 41, 42, 43, 44, 45, 46, 47, 48, 60, 61, 62, 63] rfl (by decide +kernel)
set_option maxRecDepth 20000 in
theorem gX7_count_X7_ruleNumber : GoodIn wsX7_count (wsV RX7 172 RX7 yX7_ruleNumber wsX7_ruleNumber) := goodIn_app (goodIn_of _ (by decide +kernel)) ggX7_count_X7_ruleNumber
theorem dX7_count_0 : decode cX7_count 0 = .ok (.iload_n 1, 1) := by decide +kernel
theorem dX7_count_1 : decode cX7_count 1 = .ok (.tableswitch 91 0 5 #[39, 47, 55, 73, 78, 86], 39) := by decide +kernel
theorem dX7_count_40 : decode cX7_count 40 = .ok (.aload_n 0, 1) := by decide +kernel
theorem dX7_count_41 : decode cX7_count 41 = .ok (.getfield 10, 3) := by decide +kernel
theorem dX7_count_44 : decode cX7_count 44 = .ok (.getfield 123, 3) := by decide +kernel
theorem dX7_count_47 : decode cX7_count 47 = .ok (.ireturn, 1) := by decide +kernel
theorem dX7_count_48 : decode cX7_count 48 = .ok (.aload_n 0, 1) := by decide +kernel
theorem dX7_count_49 : decode cX7_count 49 = .ok (.getfield 10, 3) := by decide +kernel
theorem dX7_count_52 : decode cX7_count 52 = .ok (.invokevirtual 136, 3) := by decide +kernel
theorem dX7_count_55 : decode cX7_count 55 = .ok (.ireturn, 1) := by decide +kernel
theorem dX7_count_56 : decode cX7_count 56 = .ok (.aload_n 0, 1) := by decide +kernel
theorem dX7_count_57 : decode cX7_count 57 = .ok (.getfield 10, 3) := by decide +kernel
theorem dX7_count_60 : decode cX7_count 60 = .ok (.iconst 0, 1) := by decide +kernel
theorem dX7_count_61 : decode cX7_count 61 = .ok (.invokevirtual 247, 3) := by decide +kernel
theorem dX7_count_64 : decode cX7_count 64 = .ok (.aload_n 0, 1) := by decide +kernel
theorem dX7_count_65 : decode cX7_count 65 = .ok (.getfield 10, 3) := by decide +kernel
theorem dX7_count_68 : decode cX7_count 68 = .ok (.iconst 1, 1) := by decide +kernel
theorem dX7_count_69 : decode cX7_count 69 = .ok (.invokevirtual 247, 3) := by decide +kernel
theorem dX7_count_72 : decode cX7_count 72 = .ok (.iadd, 1) := by decide +kernel
theorem dX7_count_73 : decode cX7_count 73 = .ok (.ireturn, 1) := by decide +kernel
theorem dX7_count_74 : decode cX7_count 74 = .ok (.aload_n 0, 1) := by decide +kernel
theorem dX7_count_75 : decode cX7_count 75 = .ok (.getfield 163, 3) := by decide +kernel
theorem dX7_count_78 : decode cX7_count 78 = .ok (.ireturn, 1) := by decide +kernel
theorem dX7_count_79 : decode cX7_count 79 = .ok (.aload_n 0, 1) := by decide +kernel
theorem dX7_count_80 : decode cX7_count 80 = .ok (.getfield 22, 3) := by decide +kernel
theorem dX7_count_83 : decode cX7_count 83 = .ok (.getfield 162, 3) := by decide +kernel
theorem dX7_count_86 : decode cX7_count 86 = .ok (.ireturn, 1) := by decide +kernel
theorem dX7_count_87 : decode cX7_count 87 = .ok (.aload_n 0, 1) := by decide +kernel
theorem dX7_count_88 : decode cX7_count 88 = .ok (.invokevirtual 172, 3) := by decide +kernel
theorem dX7_count_91 : decode cX7_count 91 = .ok (.ireturn, 1) := by decide +kernel
theorem dX7_count_92 : decode cX7_count 92 = .ok (.bipush (-2), 2) := by decide +kernel
theorem dX7_count_94 : decode cX7_count 94 = .ok (.ireturn, 1) := by decide +kernel
set_option maxRecDepth 20000 in
theorem ggX7_sheet_X7_rowAt : GoodIn wsX7_sheet wsX7_rowAt := goodIn_r _ [5, 6, 21, 22, 23, 24, 25, 26, 27, 28, 29, 30] rfl (by decide +kernel)
set_option maxRecDepth 20000 in
theorem gX7_sheet_X7_rowAt : GoodIn wsX7_sheet (wsV RX7 175 RX7 yX7_rowAt wsX7_rowAt) := goodIn_app (goodIn_of _ (by decide +kernel)) ggX7_sheet_X7_rowAt
set_option maxRecDepth 20000 in
theorem ggX7_sheet_X5_renew : GoodIn wsX7_sheet wsX5_renew := goodIn_r _ [11, 12, 13, 14, 15, 4, 16, 17, 18, 19, 20, 31, 32, 33] rfl (by decide +kernel)
set_option maxRecDepth 20000 in
theorem gX7_sheet_X5_renew : GoodIn wsX7_sheet (wsV RX7 270 RX5 yX5_renew wsX5_renew) := goodIn_app (goodIn_of _ (by decide +kernel)) ggX7_sheet_X5_renew
theorem dX7_sheet_0 : decode cX7_sheet 0 = .ok (.aload_n 0, 1) := by decide +kernel
theorem dX7_sheet_1 : decode cX7_sheet 1 = .ok (.iload_n 1, 1) := by decide +kernel
theorem dX7_sheet_2 : decode cX7_sheet 2 = .ok (.invokevirtual 175, 3) := by decide +kernel
theorem dX7_sheet_5 : decode cX7_sheet 5 = .ok (.astore 4, 2) := by decide +kernel
theorem dX7_sheet_7 : decode cX7_sheet 7 = .ok (.aload 4, 2) := by decide +kernel
theorem dX7_sheet_9 : decode cX7_sheet 9 = .ok (.ifnull 13, 3) := by decide +kernel
theorem dX7_sheet_12 : decode cX7_sheet 12 = .ok (.iload_n 2, 1) := by decide +kernel
theorem dX7_sheet_13 : decode cX7_sheet 13 = .ok (.iconst (-1), 1) := by decide +kernel
theorem dX7_sheet_14 : decode cX7_sheet 14 = .ok (.if_icmp .lt 8, 3) := by decide +kernel
theorem dX7_sheet_17 : decode cX7_sheet 17 = .ok (.iload_n 2, 1) := by decide +kernel
theorem dX7_sheet_18 : decode cX7_sheet 18 = .ok (.iconst 2, 1) := by decide +kernel
theorem dX7_sheet_19 : decode cX7_sheet 19 = .ok (.if_icmp .le 6, 3) := by decide +kernel
theorem dX7_sheet_22 : decode cX7_sheet 22 = .ok (.bipush (-2), 2) := by decide +kernel
theorem dX7_sheet_24 : decode cX7_sheet 24 = .ok (.ireturn, 1) := by decide +kernel
theorem dX7_sheet_25 : decode cX7_sheet 25 = .ok (.iload_n 2, 1) := by decide +kernel
theorem dX7_sheet_26 : decode cX7_sheet 26 = .ok (.iconst (-1), 1) := by decide +kernel
theorem dX7_sheet_27 : decode cX7_sheet 27 = .ok (.if_icmp .ne 12, 3) := by decide +kernel
theorem dX7_sheet_30 : decode cX7_sheet 30 = .ok (.aload 4, 2) := by decide +kernel
theorem dX7_sheet_32 : decode cX7_sheet 32 = .ok (.iconst (-1), 1) := by decide +kernel
theorem dX7_sheet_33 : decode cX7_sheet 33 = .ok (.iconst 0, 1) := by decide +kernel
theorem dX7_sheet_34 : decode cX7_sheet 34 = .ok (.invokevirtual 270, 3) := by decide +kernel
theorem dX7_sheet_37 : decode cX7_sheet 37 = .ok (.iconst 1, 1) := by decide +kernel
theorem dX7_sheet_38 : decode cX7_sheet 38 = .ok (.ireturn, 1) := by decide +kernel
theorem dX7_sheet_39 : decode cX7_sheet 39 = .ok (.iload_n 3, 1) := by decide +kernel
theorem dX7_sheet_40 : decode cX7_sheet 40 = .ok (.bipush 40, 2) := by decide +kernel
theorem dX7_sheet_42 : decode cX7_sheet 42 = .ok (.if_icmp .le 6, 3) := by decide +kernel
theorem dX7_sheet_45 : decode cX7_sheet 45 = .ok (.bipush (-2), 2) := by decide +kernel
theorem dX7_sheet_47 : decode cX7_sheet 47 = .ok (.ireturn, 1) := by decide +kernel
theorem dX7_sheet_48 : decode cX7_sheet 48 = .ok (.iload_n 3, 1) := by decide +kernel
theorem dX7_sheet_49 : decode cX7_sheet 49 = .ok (.ifCond .ge 6, 3) := by decide +kernel
theorem dX7_sheet_52 : decode cX7_sheet 52 = .ok (.bipush (-14), 2) := by decide +kernel
theorem dX7_sheet_54 : decode cX7_sheet 54 = .ok (.ireturn, 1) := by decide +kernel
theorem dX7_sheet_55 : decode cX7_sheet 55 = .ok (.aload 4, 2) := by decide +kernel
theorem dX7_sheet_57 : decode cX7_sheet 57 = .ok (.iload_n 2, 1) := by decide +kernel
theorem dX7_sheet_58 : decode cX7_sheet 58 = .ok (.iload_n 3, 1) := by decide +kernel
theorem dX7_sheet_59 : decode cX7_sheet 59 = .ok (.invokevirtual 270, 3) := by decide +kernel
theorem dX7_sheet_62 : decode cX7_sheet 62 = .ok (.iconst 1, 1) := by decide +kernel
theorem dX7_sheet_63 : decode cX7_sheet 63 = .ok (.ireturn, 1) := by decide +kernel
set_option maxRecDepth 20000 in
theorem ggX7_cell_X7_rowAt : GoodIn wsX7_cell wsX7_rowAt := goodIn_r _ [6, 7, 19, 20, 21, 22, 23, 24, 25, 26, 27, 28] rfl (by decide +kernel)
set_option maxRecDepth 20000 in
theorem gX7_cell_X7_rowAt : GoodIn wsX7_cell (wsV RX7 175 RX7 yX7_rowAt wsX7_rowAt) := goodIn_app (goodIn_of _ (by decide +kernel)) ggX7_cell_X7_rowAt
set_option maxRecDepth 20000 in
theorem ggX7_cell_X5_write : GoodIn wsX7_cell wsX5_write := goodIn_r _ [12, 13, 14, 15, 16, 17, 18] rfl (by decide +kernel)
set_option maxRecDepth 20000 in
theorem gX7_cell_X5_write : GoodIn wsX7_cell (wsV RX7 274 RX5 yX5_write wsX5_write) := goodIn_app (goodIn_of _ (by decide +kernel)) ggX7_cell_X5_write
theorem dX7_cell_0 : decode cX7_cell 0 = .ok (.aload_n 0, 1) := by decide +kernel
theorem dX7_cell_1 : decode cX7_cell 1 = .ok (.iload_n 1, 1) := by decide +kernel
theorem dX7_cell_2 : decode cX7_cell 2 = .ok (.invokevirtual 175, 3) := by decide +kernel
theorem dX7_cell_5 : decode cX7_cell 5 = .ok (.astore 4, 2) := by decide +kernel
theorem dX7_cell_7 : decode cX7_cell 7 = .ok (.aload 4, 2) := by decide +kernel
theorem dX7_cell_9 : decode cX7_cell 9 = .ok (.ifnonnull 6, 3) := by decide +kernel
theorem dX7_cell_12 : decode cX7_cell 12 = .ok (.bipush (-2), 2) := by decide +kernel
theorem dX7_cell_14 : decode cX7_cell 14 = .ok (.ireturn, 1) := by decide +kernel
theorem dX7_cell_15 : decode cX7_cell 15 = .ok (.aload 4, 2) := by decide +kernel
theorem dX7_cell_17 : decode cX7_cell 17 = .ok (.getfield 259, 3) := by decide +kernel
theorem dX7_cell_20 : decode cX7_cell 20 = .ok (.iconst (-1), 1) := by decide +kernel
theorem dX7_cell_21 : decode cX7_cell 21 = .ok (.if_icmp .ne 6, 3) := by decide +kernel
theorem dX7_cell_24 : decode cX7_cell 24 = .ok (.bipush (-11), 2) := by decide +kernel
theorem dX7_cell_26 : decode cX7_cell 26 = .ok (.ireturn, 1) := by decide +kernel
theorem dX7_cell_27 : decode cX7_cell 27 = .ok (.aload 4, 2) := by decide +kernel
theorem dX7_cell_29 : decode cX7_cell 29 = .ok (.iload_n 2, 1) := by decide +kernel
theorem dX7_cell_30 : decode cX7_cell 30 = .ok (.iload_n 3, 1) := by decide +kernel
theorem dX7_cell_31 : decode cX7_cell 31 = .ok (.invokevirtual 274, 3) := by decide +kernel
theorem dX7_cell_34 : decode cX7_cell 34 = .ok (.ifCond .eq 7, 3) := by decide +kernel
theorem dX7_cell_37 : decode cX7_cell 37 = .ok (.iconst 1, 1) := by decide +kernel
theorem dX7_cell_38 : decode cX7_cell 38 = .ok (.goto 5, 3) := by decide +kernel
theorem dX7_cell_41 : decode cX7_cell 41 = .ok (.bipush (-12), 2) := by decide +kernel
theorem dX7_cell_43 : decode cX7_cell 43 = .ok (.ireturn, 1) := by decide +kernel
set_option maxRecDepth 20000 in
theorem ggX7_copy_X7_rowAt : GoodIn wsX7_copy wsX7_rowAt := goodIn_r _ [11, 12, 22, 23, 24, 25, 26, 27, 28, 29, 30, 31] rfl (by decide +kernel)
set_option maxRecDepth 20000 in
theorem gX7_copy_X7_rowAt : GoodIn wsX7_copy (wsV RX7 175 RX7 yX7_rowAt wsX7_rowAt) := goodIn_app (goodIn_of _ (by decide +kernel)) ggX7_copy_X7_rowAt
set_option maxRecDepth 20000 in
theorem ggX7_copy_X5_spans : GoodIn wsX7_copy wsX5_spans := goodIn_r _ [17, 18, 19, 20, 21] rfl (by decide +kernel)
set_option maxRecDepth 20000 in
theorem gX7_copy_X5_spans : GoodIn wsX7_copy (wsV RX7 300 RX5 yX5_spans wsX5_spans) := goodIn_app (goodIn_of _ (by decide +kernel)) ggX7_copy_X5_spans
theorem dX7_copy_0 : decode cX7_copy 0 = .ok (.aload_n 0, 1) := by decide +kernel
theorem dX7_copy_1 : decode cX7_copy 1 = .ok (.iload_n 1, 1) := by decide +kernel
theorem dX7_copy_2 : decode cX7_copy 2 = .ok (.invokevirtual 175, 3) := by decide +kernel
theorem dX7_copy_5 : decode cX7_copy 5 = .ok (.astore 6, 2) := by decide +kernel
theorem dX7_copy_7 : decode cX7_copy 7 = .ok (.aload_n 0, 1) := by decide +kernel
theorem dX7_copy_8 : decode cX7_copy 8 = .ok (.iload_n 3, 1) := by decide +kernel
theorem dX7_copy_9 : decode cX7_copy 9 = .ok (.invokevirtual 175, 3) := by decide +kernel
theorem dX7_copy_12 : decode cX7_copy 12 = .ok (.astore 7, 2) := by decide +kernel
theorem dX7_copy_14 : decode cX7_copy 14 = .ok (.aload 6, 2) := by decide +kernel
theorem dX7_copy_16 : decode cX7_copy 16 = .ok (.ifnull 8, 3) := by decide +kernel
theorem dX7_copy_19 : decode cX7_copy 19 = .ok (.aload 7, 2) := by decide +kernel
theorem dX7_copy_21 : decode cX7_copy 21 = .ok (.ifnonnull 6, 3) := by decide +kernel
theorem dX7_copy_24 : decode cX7_copy 24 = .ok (.bipush (-2), 2) := by decide +kernel
theorem dX7_copy_26 : decode cX7_copy 26 = .ok (.ireturn, 1) := by decide +kernel
theorem dX7_copy_27 : decode cX7_copy 27 = .ok (.aload 6, 2) := by decide +kernel
theorem dX7_copy_29 : decode cX7_copy 29 = .ok (.getfield 259, 3) := by decide +kernel
theorem dX7_copy_32 : decode cX7_copy 32 = .ok (.iconst (-1), 1) := by decide +kernel
theorem dX7_copy_33 : decode cX7_copy 33 = .ok (.if_icmp .eq 12, 3) := by decide +kernel
theorem dX7_copy_36 : decode cX7_copy 36 = .ok (.aload 7, 2) := by decide +kernel
theorem dX7_copy_38 : decode cX7_copy 38 = .ok (.getfield 259, 3) := by decide +kernel
theorem dX7_copy_41 : decode cX7_copy 41 = .ok (.iconst (-1), 1) := by decide +kernel
theorem dX7_copy_42 : decode cX7_copy 42 = .ok (.if_icmp .ne 6, 3) := by decide +kernel
theorem dX7_copy_45 : decode cX7_copy 45 = .ok (.bipush (-11), 2) := by decide +kernel
theorem dX7_copy_47 : decode cX7_copy 47 = .ok (.ireturn, 1) := by decide +kernel
theorem dX7_copy_48 : decode cX7_copy 48 = .ok (.aload 6, 2) := by decide +kernel
theorem dX7_copy_50 : decode cX7_copy 50 = .ok (.getfield 259, 3) := by decide +kernel
theorem dX7_copy_53 : decode cX7_copy 53 = .ok (.aload 7, 2) := by decide +kernel
theorem dX7_copy_55 : decode cX7_copy 55 = .ok (.getfield 259, 3) := by decide +kernel
theorem dX7_copy_58 : decode cX7_copy 58 = .ok (.if_icmp .eq 6, 3) := by decide +kernel
theorem dX7_copy_61 : decode cX7_copy 61 = .ok (.bipush (-13), 2) := by decide +kernel
theorem dX7_copy_63 : decode cX7_copy 63 = .ok (.ireturn, 1) := by decide +kernel
theorem dX7_copy_64 : decode cX7_copy 64 = .ok (.aload 6, 2) := by decide +kernel
theorem dX7_copy_66 : decode cX7_copy 66 = .ok (.iload_n 2, 1) := by decide +kernel
theorem dX7_copy_67 : decode cX7_copy 67 = .ok (.iload 5, 2) := by decide +kernel
theorem dX7_copy_69 : decode cX7_copy 69 = .ok (.invokevirtual 300, 3) := by decide +kernel
theorem dX7_copy_72 : decode cX7_copy 72 = .ok (.ifCond .eq 15, 3) := by decide +kernel
theorem dX7_copy_75 : decode cX7_copy 75 = .ok (.aload 7, 2) := by decide +kernel
theorem dX7_copy_77 : decode cX7_copy 77 = .ok (.iload 4, 2) := by decide +kernel
theorem dX7_copy_79 : decode cX7_copy 79 = .ok (.iload 5, 2) := by decide +kernel
theorem dX7_copy_81 : decode cX7_copy 81 = .ok (.invokevirtual 300, 3) := by decide +kernel
theorem dX7_copy_84 : decode cX7_copy 84 = .ok (.ifCond .ne 6, 3) := by decide +kernel
theorem dX7_copy_87 : decode cX7_copy 87 = .ok (.bipush (-12), 2) := by decide +kernel
theorem dX7_copy_89 : decode cX7_copy 89 = .ok (.ireturn, 1) := by decide +kernel
theorem dX7_copy_90 : decode cX7_copy 90 = .ok (.aload 6, 2) := by decide +kernel
theorem dX7_copy_92 : decode cX7_copy 92 = .ok (.getfield 187, 3) := by decide +kernel
theorem dX7_copy_95 : decode cX7_copy 95 = .ok (.iload_n 2, 1) := by decide +kernel
theorem dX7_copy_96 : decode cX7_copy 96 = .ok (.aload 7, 2) := by decide +kernel
theorem dX7_copy_98 : decode cX7_copy 98 = .ok (.getfield 187, 3) := by decide +kernel
theorem dX7_copy_101 : decode cX7_copy 101 = .ok (.iload 4, 2) := by decide +kernel
theorem dX7_copy_103 : decode cX7_copy 103 = .ok (.iload 5, 2) := by decide +kernel
theorem dX7_copy_105 : decode cX7_copy 105 = .ok (.invokestatic 303, 3) := by decide +kernel
theorem dX7_copy_108 : decode cX7_copy 108 = .ok (.iload 5, 2) := by decide +kernel
theorem dX7_copy_110 : decode cX7_copy 110 = .ok (.ireturn, 1) := by decide +kernel
set_option maxRecDepth 20000 in
theorem ggX7_bargains_X7_rowAt : GoodIn wsX7_bargains wsX7_rowAt := goodIn_r _ [6, 7, 42, 43, 44, 45, 46, 47, 48, 49, 50, 51] rfl (by decide +kernel)
set_option maxRecDepth 20000 in
theorem gX7_bargains_X7_rowAt : GoodIn wsX7_bargains (wsV RX7 175 RX7 yX7_rowAt wsX7_rowAt) := goodIn_app (goodIn_of _ (by decide +kernel)) ggX7_bargains_X7_rowAt
set_option maxRecDepth 20000 in
theorem ggX7_bargains_X5_spans : GoodIn wsX7_bargains wsX5_spans := goodIn_r _ [12, 13, 39, 40, 41] rfl (by decide +kernel)
set_option maxRecDepth 20000 in
theorem gX7_bargains_X5_spans : GoodIn wsX7_bargains (wsV RX7 300 RX5 yX5_spans wsX5_spans) := goodIn_app (goodIn_of _ (by decide +kernel)) ggX7_bargains_X5_spans
set_option maxRecDepth 20000 in
theorem ggX7_bargains_X5_read : GoodIn wsX7_bargains wsX5_read := goodIn_r _ [17, 18, 19, 5, 20, 39, 40, 41] rfl (by decide +kernel)
set_option maxRecDepth 20000 in
theorem gX7_bargains_X5_read : GoodIn wsX7_bargains (wsV RX7 309 RX5 yX5_read wsX5_read) := goodIn_app (goodIn_of _ (by decide +kernel)) ggX7_bargains_X5_read
set_option maxRecDepth 20000 in
theorem ggX7_bargains_X7_bargain : GoodIn wsX7_bargains wsX7_bargain := goodIn_r _ [24, 25, 26, 27, 28, 29, 30, 31, 32, 33, 34, 35, 36, 37, 5, 38, 42, 43, 44, 45, 46, 47, 48, 49, 50, 51, 52, 53, 54, 55, 56, 57, 58, 59] rfl (by decide +kernel)
set_option maxRecDepth 20000 in
theorem gX7_bargains_X7_bargain : GoodIn wsX7_bargains (wsV RX7 311 RX7 yX7_bargain wsX7_bargain) := goodIn_app (goodIn_of _ (by decide +kernel)) ggX7_bargains_X7_bargain
theorem dX7_bargains_0 : decode cX7_bargains 0 = .ok (.aload_n 0, 1) := by decide +kernel
theorem dX7_bargains_1 : decode cX7_bargains 1 = .ok (.iload_n 1, 1) := by decide +kernel
theorem dX7_bargains_2 : decode cX7_bargains 2 = .ok (.invokevirtual 175, 3) := by decide +kernel
theorem dX7_bargains_5 : decode cX7_bargains 5 = .ok (.astore 5, 2) := by decide +kernel
theorem dX7_bargains_7 : decode cX7_bargains 7 = .ok (.aload 5, 2) := by decide +kernel
theorem dX7_bargains_9 : decode cX7_bargains 9 = .ok (.ifnull 24, 3) := by decide +kernel
theorem dX7_bargains_12 : decode cX7_bargains 12 = .ok (.iload_n 2, 1) := by decide +kernel
theorem dX7_bargains_13 : decode cX7_bargains 13 = .ok (.ifCond .lt 20, 3) := by decide +kernel
theorem dX7_bargains_16 : decode cX7_bargains 16 = .ok (.iload_n 2, 1) := by decide +kernel
theorem dX7_bargains_17 : decode cX7_bargains 17 = .ok (.iconst 2, 1) := by decide +kernel
theorem dX7_bargains_18 : decode cX7_bargains 18 = .ok (.if_icmp .gt 15, 3) := by decide +kernel
theorem dX7_bargains_21 : decode cX7_bargains 21 = .ok (.iload 4, 2) := by decide +kernel
theorem dX7_bargains_23 : decode cX7_bargains 23 = .ok (.ifCond .lt 10, 3) := by decide +kernel
theorem dX7_bargains_26 : decode cX7_bargains 26 = .ok (.iload 4, 2) := by decide +kernel
theorem dX7_bargains_28 : decode cX7_bargains 28 = .ok (.bipush 6, 2) := by decide +kernel
theorem dX7_bargains_30 : decode cX7_bargains 30 = .ok (.if_icmp .le 6, 3) := by decide +kernel
theorem dX7_bargains_33 : decode cX7_bargains 33 = .ok (.bipush (-2), 2) := by decide +kernel
theorem dX7_bargains_35 : decode cX7_bargains 35 = .ok (.ireturn, 1) := by decide +kernel
theorem dX7_bargains_36 : decode cX7_bargains 36 = .ok (.aload 5, 2) := by decide +kernel
theorem dX7_bargains_38 : decode cX7_bargains 38 = .ok (.getfield 259, 3) := by decide +kernel
theorem dX7_bargains_41 : decode cX7_bargains 41 = .ok (.iconst (-1), 1) := by decide +kernel
theorem dX7_bargains_42 : decode cX7_bargains 42 = .ok (.if_icmp .ne 6, 3) := by decide +kernel
theorem dX7_bargains_45 : decode cX7_bargains 45 = .ok (.bipush (-11), 2) := by decide +kernel
theorem dX7_bargains_47 : decode cX7_bargains 47 = .ok (.ireturn, 1) := by decide +kernel
theorem dX7_bargains_48 : decode cX7_bargains 48 = .ok (.aload 5, 2) := by decide +kernel
theorem dX7_bargains_50 : decode cX7_bargains 50 = .ok (.getfield 259, 3) := by decide +kernel
theorem dX7_bargains_53 : decode cX7_bargains 53 = .ok (.iload_n 2, 1) := by decide +kernel
theorem dX7_bargains_54 : decode cX7_bargains 54 = .ok (.if_icmp .eq 6, 3) := by decide +kernel
theorem dX7_bargains_57 : decode cX7_bargains 57 = .ok (.bipush (-13), 2) := by decide +kernel
theorem dX7_bargains_59 : decode cX7_bargains 59 = .ok (.ireturn, 1) := by decide +kernel
theorem dX7_bargains_60 : decode cX7_bargains 60 = .ok (.iconst 0, 1) := by decide +kernel
theorem dX7_bargains_61 : decode cX7_bargains 61 = .ok (.istore 6, 2) := by decide +kernel
theorem dX7_bargains_63 : decode cX7_bargains 63 = .ok (.iconst 0, 1) := by decide +kernel
theorem dX7_bargains_64 : decode cX7_bargains 64 = .ok (.istore 7, 2) := by decide +kernel
theorem dX7_bargains_66 : decode cX7_bargains 66 = .ok (.iload 7, 2) := by decide +kernel
theorem dX7_bargains_68 : decode cX7_bargains 68 = .ok (.iload 4, 2) := by decide +kernel
theorem dX7_bargains_70 : decode cX7_bargains 70 = .ok (.if_icmp .ge 66, 3) := by decide +kernel
theorem dX7_bargains_73 : decode cX7_bargains 73 = .ok (.iload_n 3, 1) := by decide +kernel
theorem dX7_bargains_74 : decode cX7_bargains 74 = .ok (.iconst 3, 1) := by decide +kernel
theorem dX7_bargains_75 : decode cX7_bargains 75 = .ok (.iload 7, 2) := by decide +kernel
theorem dX7_bargains_77 : decode cX7_bargains 77 = .ok (.imul, 1) := by decide +kernel
theorem dX7_bargains_78 : decode cX7_bargains 78 = .ok (.iadd, 1) := by decide +kernel
theorem dX7_bargains_79 : decode cX7_bargains 79 = .ok (.istore 8, 2) := by decide +kernel
theorem dX7_bargains_81 : decode cX7_bargains 81 = .ok (.aload 5, 2) := by decide +kernel
theorem dX7_bargains_83 : decode cX7_bargains 83 = .ok (.iload 8, 2) := by decide +kernel
theorem dX7_bargains_85 : decode cX7_bargains 85 = .ok (.iconst 3, 1) := by decide +kernel
theorem dX7_bargains_86 : decode cX7_bargains 86 = .ok (.invokevirtual 300, 3) := by decide +kernel
theorem dX7_bargains_89 : decode cX7_bargains 89 = .ok (.ifCond .ne 6, 3) := by decide +kernel
theorem dX7_bargains_92 : decode cX7_bargains 92 = .ok (.bipush (-12), 2) := by decide +kernel
theorem dX7_bargains_94 : decode cX7_bargains 94 = .ok (.ireturn, 1) := by decide +kernel
theorem dX7_bargains_95 : decode cX7_bargains 95 = .ok (.aload_n 0, 1) := by decide +kernel
theorem dX7_bargains_96 : decode cX7_bargains 96 = .ok (.aload 5, 2) := by decide +kernel
theorem dX7_bargains_98 : decode cX7_bargains 98 = .ok (.iload 8, 2) := by decide +kernel
theorem dX7_bargains_100 : decode cX7_bargains 100 = .ok (.invokevirtual 309, 3) := by decide +kernel
theorem dX7_bargains_103 : decode cX7_bargains 103 = .ok (.aload 5, 2) := by decide +kernel
theorem dX7_bargains_105 : decode cX7_bargains 105 = .ok (.iload 8, 2) := by decide +kernel
theorem dX7_bargains_107 : decode cX7_bargains 107 = .ok (.iconst 1, 1) := by decide +kernel
theorem dX7_bargains_108 : decode cX7_bargains 108 = .ok (.iadd, 1) := by decide +kernel
theorem dX7_bargains_109 : decode cX7_bargains 109 = .ok (.invokevirtual 309, 3) := by decide +kernel
theorem dX7_bargains_112 : decode cX7_bargains 112 = .ok (.aload 5, 2) := by decide +kernel
theorem dX7_bargains_114 : decode cX7_bargains 114 = .ok (.iload 8, 2) := by decide +kernel
theorem dX7_bargains_116 : decode cX7_bargains 116 = .ok (.iconst 2, 1) := by decide +kernel
theorem dX7_bargains_117 : decode cX7_bargains 117 = .ok (.iadd, 1) := by decide +kernel
theorem dX7_bargains_118 : decode cX7_bargains 118 = .ok (.invokevirtual 309, 3) := by decide +kernel
theorem dX7_bargains_121 : decode cX7_bargains 121 = .ok (.invokevirtual 311, 3) := by decide +kernel
theorem dX7_bargains_124 : decode cX7_bargains 124 = .ok (.ifCond .lt 6, 3) := by decide +kernel
theorem dX7_bargains_127 : decode cX7_bargains 127 = .ok (.iinc 6 1, 3) := by decide +kernel
theorem dX7_bargains_130 : decode cX7_bargains 130 = .ok (.iinc 7 1, 3) := by decide +kernel
theorem dX7_bargains_133 : decode cX7_bargains 133 = .ok (.goto (-67), 3) := by decide +kernel
theorem dX7_bargains_136 : decode cX7_bargains 136 = .ok (.iload 6, 2) := by decide +kernel
theorem dX7_bargains_138 : decode cX7_bargains 138 = .ok (.ireturn, 1) := by decide +kernel
set_option maxRecDepth 20000 in
theorem ggX7_taken_X2_has : GoodIn wsX7_taken wsX2_has := goodIn_r _ [8, 9, 28, 29, 30, 31, 32, 33, 34, 35] rfl (by decide +kernel)
set_option maxRecDepth 20000 in
theorem gX7_taken_X2_has : GoodIn wsX7_taken (wsV RX7 130 RX2 yX2_has wsX2_has) := goodIn_app (goodIn_of _ (by decide +kernel)) ggX7_taken_X2_has
set_option maxRecDepth 20000 in
theorem ggX7_taken_X7_at : GoodIn wsX7_taken wsX7_at := goodIn_r _ [13] rfl (by decide +kernel)
set_option maxRecDepth 20000 in
theorem gX7_taken_X7_at : GoodIn wsX7_taken (va_wsS RX7 126 yX7_at wsX7_at) := goodIn_app (goodIn_of _ (by decide +kernel)) ggX7_taken_X7_at
set_option maxRecDepth 20000 in
theorem ggX7_taken_X1_isUnder : GoodIn wsX7_taken wsX1_isUnder := goodIn_r _ [17] rfl (by decide +kernel)
set_option maxRecDepth 20000 in
theorem gX7_taken_X1_isUnder : GoodIn wsX7_taken (va_wsS RX7 315 yX1_isUnder wsX1_isUnder) := goodIn_app (goodIn_of _ (by decide +kernel)) ggX7_taken_X1_isUnder
theorem dX7_taken_0 : decode cX7_taken 0 = .ok (.iload_n 2, 1) := by decide +kernel
theorem dX7_taken_1 : decode cX7_taken 1 = .ok (.ifCond .lt 9, 3) := by decide +kernel
theorem dX7_taken_4 : decode cX7_taken 4 = .ok (.iload_n 2, 1) := by decide +kernel
theorem dX7_taken_5 : decode cX7_taken 5 = .ok (.bipush 6, 2) := by decide +kernel
theorem dX7_taken_7 : decode cX7_taken 7 = .ok (.if_icmp .lt 6, 3) := by decide +kernel
theorem dX7_taken_10 : decode cX7_taken 10 = .ok (.bipush (-2), 2) := by decide +kernel
theorem dX7_taken_12 : decode cX7_taken 12 = .ok (.ireturn, 1) := by decide +kernel
theorem dX7_taken_13 : decode cX7_taken 13 = .ok (.aload_n 0, 1) := by decide +kernel
theorem dX7_taken_14 : decode cX7_taken 14 = .ok (.getfield 10, 3) := by decide +kernel
theorem dX7_taken_17 : decode cX7_taken 17 = .ok (.iload_n 1, 1) := by decide +kernel
theorem dX7_taken_18 : decode cX7_taken 18 = .ok (.invokevirtual 130, 3) := by decide +kernel
theorem dX7_taken_21 : decode cX7_taken 21 = .ok (.ifCond .ne 6, 3) := by decide +kernel
theorem dX7_taken_24 : decode cX7_taken 24 = .ok (.bipush (-11), 2) := by decide +kernel
theorem dX7_taken_26 : decode cX7_taken 26 = .ok (.ireturn, 1) := by decide +kernel
theorem dX7_taken_27 : decode cX7_taken 27 = .ok (.aload_n 0, 1) := by decide +kernel
theorem dX7_taken_28 : decode cX7_taken 28 = .ok (.getfield 10, 3) := by decide +kernel
theorem dX7_taken_31 : decode cX7_taken 31 = .ok (.getfield 133, 3) := by decide +kernel
theorem dX7_taken_34 : decode cX7_taken 34 = .ok (.iload_n 1, 1) := by decide +kernel
theorem dX7_taken_35 : decode cX7_taken 35 = .ok (.invokestatic 126, 3) := by decide +kernel
theorem dX7_taken_38 : decode cX7_taken 38 = .ok (.iload_n 2, 1) := by decide +kernel
theorem dX7_taken_39 : decode cX7_taken 39 = .ok (.invokestatic 315, 3) := by decide +kernel
theorem dX7_taken_42 : decode cX7_taken 42 = .ok (.ifCond .eq 17, 3) := by decide +kernel
theorem dX7_taken_45 : decode cX7_taken 45 = .ok (.aload_n 0, 1) := by decide +kernel
theorem dX7_taken_46 : decode cX7_taken 46 = .ok (.getfield 10, 3) := by decide +kernel
theorem dX7_taken_49 : decode cX7_taken 49 = .ok (.getfield 110, 3) := by decide +kernel
theorem dX7_taken_52 : decode cX7_taken 52 = .ok (.iload_n 1, 1) := by decide +kernel
theorem dX7_taken_53 : decode cX7_taken 53 = .ok (.invokestatic 126, 3) := by decide +kernel
theorem dX7_taken_56 : decode cX7_taken 56 = .ok (.goto 5, 3) := by decide +kernel
theorem dX7_taken_59 : decode cX7_taken 59 = .ok (.bipush (-13), 2) := by decide +kernel
theorem dX7_taken_61 : decode cX7_taken 61 = .ok (.ireturn, 1) := by decide +kernel
theorem dX7_rowAt_0 : decode cX7_rowAt 0 = .ok (.iload_n 1, 1) := by decide +kernel
theorem dX7_rowAt_1 : decode cX7_rowAt 1 = .ok (.ifCond .lt 21, 3) := by decide +kernel
theorem dX7_rowAt_4 : decode cX7_rowAt 4 = .ok (.iload_n 1, 1) := by decide +kernel
theorem dX7_rowAt_5 : decode cX7_rowAt 5 = .ok (.aload_n 0, 1) := by decide +kernel
theorem dX7_rowAt_6 : decode cX7_rowAt 6 = .ok (.getfield 34, 3) := by decide +kernel
theorem dX7_rowAt_9 : decode cX7_rowAt 9 = .ok (.arraylength, 1) := by decide +kernel
theorem dX7_rowAt_10 : decode cX7_rowAt 10 = .ok (.if_icmp .ge 12, 3) := by decide +kernel
theorem dX7_rowAt_13 : decode cX7_rowAt 13 = .ok (.aload_n 0, 1) := by decide +kernel
theorem dX7_rowAt_14 : decode cX7_rowAt 14 = .ok (.getfield 34, 3) := by decide +kernel
theorem dX7_rowAt_17 : decode cX7_rowAt 17 = .ok (.iload_n 1, 1) := by decide +kernel
theorem dX7_rowAt_18 : decode cX7_rowAt 18 = .ok (.aaload, 1) := by decide +kernel
theorem dX7_rowAt_19 : decode cX7_rowAt 19 = .ok (.goto 4, 3) := by decide +kernel
theorem dX7_rowAt_22 : decode cX7_rowAt 22 = .ok (.aconst_null, 1) := by decide +kernel
theorem dX7_rowAt_23 : decode cX7_rowAt 23 = .ok (.areturn, 1) := by decide +kernel
theorem dX7_textAt_0 : decode cX7_textAt 0 = .ok (.iload_n 1, 1) := by decide +kernel
theorem dX7_textAt_1 : decode cX7_textAt 1 = .ok (.ifCond .lt 29, 3) := by decide +kernel
theorem dX7_textAt_4 : decode cX7_textAt 4 = .ok (.iload_n 1, 1) := by decide +kernel
theorem dX7_textAt_5 : decode cX7_textAt 5 = .ok (.aload_n 0, 1) := by decide +kernel
theorem dX7_textAt_6 : decode cX7_textAt 6 = .ok (.getfield 163, 3) := by decide +kernel
theorem dX7_textAt_9 : decode cX7_textAt 9 = .ok (.if_icmp .ge 21, 3) := by decide +kernel
theorem dX7_textAt_12 : decode cX7_textAt 12 = .ok (.iload_n 1, 1) := by decide +kernel
theorem dX7_textAt_13 : decode cX7_textAt 13 = .ok (.aload_n 0, 1) := by decide +kernel
theorem dX7_textAt_14 : decode cX7_textAt 14 = .ok (.getfield 28, 3) := by decide +kernel
theorem dX7_textAt_17 : decode cX7_textAt 17 = .ok (.arraylength, 1) := by decide +kernel
theorem dX7_textAt_18 : decode cX7_textAt 18 = .ok (.if_icmp .ge 12, 3) := by decide +kernel
theorem dX7_textAt_21 : decode cX7_textAt 21 = .ok (.aload_n 0, 1) := by decide +kernel
theorem dX7_textAt_22 : decode cX7_textAt 22 = .ok (.getfield 28, 3) := by decide +kernel
theorem dX7_textAt_25 : decode cX7_textAt 25 = .ok (.iload_n 1, 1) := by decide +kernel
theorem dX7_textAt_26 : decode cX7_textAt 26 = .ok (.aaload, 1) := by decide +kernel
theorem dX7_textAt_27 : decode cX7_textAt 27 = .ok (.goto 4, 3) := by decide +kernel
theorem dX7_textAt_30 : decode cX7_textAt 30 = .ok (.aconst_null, 1) := by decide +kernel
theorem dX7_textAt_31 : decode cX7_textAt 31 = .ok (.areturn, 1) := by decide +kernel
theorem dX7_keepText_0 : decode cX7_keepText 0 = .ok (.aload_n 1, 1) := by decide +kernel
theorem dX7_keepText_1 : decode cX7_keepText 1 = .ok (.ifnull 35, 3) := by decide +kernel
theorem dX7_keepText_4 : decode cX7_keepText 4 = .ok (.aload_n 0, 1) := by decide +kernel
theorem dX7_keepText_5 : decode cX7_keepText 5 = .ok (.getfield 163, 3) := by decide +kernel
theorem dX7_keepText_8 : decode cX7_keepText 8 = .ok (.aload_n 0, 1) := by decide +kernel
theorem dX7_keepText_9 : decode cX7_keepText 9 = .ok (.getfield 28, 3) := by decide +kernel
theorem dX7_keepText_12 : decode cX7_keepText 12 = .ok (.arraylength, 1) := by decide +kernel
theorem dX7_keepText_13 : decode cX7_keepText 13 = .ok (.if_icmp .ge 23, 3) := by decide +kernel
theorem dX7_keepText_16 : decode cX7_keepText 16 = .ok (.aload_n 0, 1) := by decide +kernel
theorem dX7_keepText_17 : decode cX7_keepText 17 = .ok (.getfield 28, 3) := by decide +kernel
theorem dX7_keepText_20 : decode cX7_keepText 20 = .ok (.aload_n 0, 1) := by decide +kernel
theorem dX7_keepText_21 : decode cX7_keepText 21 = .ok (.getfield 163, 3) := by decide +kernel
theorem dX7_keepText_24 : decode cX7_keepText 24 = .ok (.aload_n 1, 1) := by decide +kernel
theorem dX7_keepText_25 : decode cX7_keepText 25 = .ok (.aastore, 1) := by decide +kernel
theorem dX7_keepText_26 : decode cX7_keepText 26 = .ok (.aload_n 0, 1) := by decide +kernel
theorem dX7_keepText_27 : decode cX7_keepText 27 = .ok (.dup, 1) := by decide +kernel
theorem dX7_keepText_28 : decode cX7_keepText 28 = .ok (.getfield 163, 3) := by decide +kernel
theorem dX7_keepText_31 : decode cX7_keepText 31 = .ok (.iconst 1, 1) := by decide +kernel
theorem dX7_keepText_32 : decode cX7_keepText 32 = .ok (.iadd, 1) := by decide +kernel
theorem dX7_keepText_33 : decode cX7_keepText 33 = .ok (.putfield 163, 3) := by decide +kernel
theorem dX7_keepText_36 : decode cX7_keepText 36 = .ok (.return_, 1) := by decide +kernel
theorem dX7_ruleNumber_0 : decode cX7_ruleNumber 0 = .ok (.aload_n 0, 1) := by decide +kernel
theorem dX7_ruleNumber_1 : decode cX7_ruleNumber 1 = .ok (.getfield 10, 3) := by decide +kernel
theorem dX7_ruleNumber_4 : decode cX7_ruleNumber 4 = .ok (.getfield 84, 3) := by decide +kernel
theorem dX7_ruleNumber_7 : decode cX7_ruleNumber 7 = .ok (.ifnonnull 7, 3) := by decide +kernel
theorem dX7_ruleNumber_10 : decode cX7_ruleNumber 10 = .ok (.iconst 0, 1) := by decide +kernel
theorem dX7_ruleNumber_11 : decode cX7_ruleNumber 11 = .ok (.goto 13, 3) := by decide +kernel
theorem dX7_ruleNumber_14 : decode cX7_ruleNumber 14 = .ok (.aload_n 0, 1) := by decide +kernel
theorem dX7_ruleNumber_15 : decode cX7_ruleNumber 15 = .ok (.getfield 10, 3) := by decide +kernel
theorem dX7_ruleNumber_18 : decode cX7_ruleNumber 18 = .ok (.getfield 84, 3) := by decide +kernel
theorem dX7_ruleNumber_21 : decode cX7_ruleNumber 21 = .ok (.getfield 169, 3) := by decide +kernel
theorem dX7_ruleNumber_24 : decode cX7_ruleNumber 24 = .ok (.ireturn, 1) := by decide +kernel
set_option maxRecDepth 20000 in
theorem ggX7_tourRefusal_X5_read : GoodIn wsX7_tourRefusal wsX5_read := goodIn_r _ [9, 10, 11, 12, 13, 24, 25, 26] rfl (by decide +kernel)
set_option maxRecDepth 20000 in
theorem gX7_tourRefusal_X5_read : GoodIn wsX7_tourRefusal (wsV RX7 309 RX5 yX5_read wsX5_read) := goodIn_app (goodIn_of _ (by decide +kernel)) ggX7_tourRefusal_X5_read
set_option maxRecDepth 20000 in
theorem ggX7_tourRefusal_X2_has : GoodIn wsX7_tourRefusal wsX2_has := goodIn_r _ [18, 19, 37, 38, 39, 40, 41, 42, 43, 44] rfl (by decide +kernel)
set_option maxRecDepth 20000 in
theorem gX7_tourRefusal_X2_has : GoodIn wsX7_tourRefusal (wsV RX7 130 RX2 yX2_has wsX2_has) := goodIn_app (goodIn_of _ (by decide +kernel)) ggX7_tourRefusal_X2_has
set_option maxRecDepth 20000 in
theorem ggX7_tourRefusal_X7_at : GoodIn wsX7_tourRefusal wsX7_at := goodIn_r _ [13] rfl (by decide +kernel)
set_option maxRecDepth 20000 in
theorem gX7_tourRefusal_X7_at : GoodIn wsX7_tourRefusal (va_wsS RX7 126 yX7_at wsX7_at) := goodIn_app (goodIn_of _ (by decide +kernel)) ggX7_tourRefusal_X7_at
set_option maxRecDepth 20000 in
theorem ggX7_tourRefusal_X7_hasBit : GoodIn wsX7_tourRefusal wsX7_hasBit := goodIn_r _ [23] rfl (by decide +kernel)
set_option maxRecDepth 20000 in
theorem gX7_tourRefusal_X7_hasBit : GoodIn wsX7_tourRefusal (va_wsS RX7 212 yX7_hasBit wsX7_hasBit) := goodIn_app (goodIn_of _ (by decide +kernel)) ggX7_tourRefusal_X7_hasBit
theorem dX7_tourRefusal_0 : decode cX7_tourRefusal 0 = .ok (.aload_n 1, 1) := by decide +kernel
theorem dX7_tourRefusal_1 : decode cX7_tourRefusal 1 = .ok (.ifnonnull 6, 3) := by decide +kernel
theorem dX7_tourRefusal_4 : decode cX7_tourRefusal 4 = .ok (.bipush (-2), 2) := by decide +kernel
theorem dX7_tourRefusal_6 : decode cX7_tourRefusal 6 = .ok (.ireturn, 1) := by decide +kernel
theorem dX7_tourRefusal_7 : decode cX7_tourRefusal 7 = .ok (.aload_n 1, 1) := by decide +kernel
theorem dX7_tourRefusal_8 : decode cX7_tourRefusal 8 = .ok (.getfield 259, 3) := by decide +kernel
theorem dX7_tourRefusal_11 : decode cX7_tourRefusal 11 = .ok (.iconst (-1), 1) := by decide +kernel
theorem dX7_tourRefusal_12 : decode cX7_tourRefusal 12 = .ok (.if_icmp .ne 6, 3) := by decide +kernel
theorem dX7_tourRefusal_15 : decode cX7_tourRefusal 15 = .ok (.bipush (-11), 2) := by decide +kernel
theorem dX7_tourRefusal_17 : decode cX7_tourRefusal 17 = .ok (.ireturn, 1) := by decide +kernel
theorem dX7_tourRefusal_18 : decode cX7_tourRefusal 18 = .ok (.iconst 0, 1) := by decide +kernel
theorem dX7_tourRefusal_19 : decode cX7_tourRefusal 19 = .ok (.istore_n 2, 1) := by decide +kernel
theorem dX7_tourRefusal_20 : decode cX7_tourRefusal 20 = .ok (.iconst 0, 1) := by decide +kernel
theorem dX7_tourRefusal_21 : decode cX7_tourRefusal 21 = .ok (.istore_n 3, 1) := by decide +kernel
theorem dX7_tourRefusal_22 : decode cX7_tourRefusal 22 = .ok (.iload_n 3, 1) := by decide +kernel
theorem dX7_tourRefusal_23 : decode cX7_tourRefusal 23 = .ok (.aload_n 1, 1) := by decide +kernel
theorem dX7_tourRefusal_24 : decode cX7_tourRefusal 24 = .ok (.getfield 190, 3) := by decide +kernel
theorem dX7_tourRefusal_27 : decode cX7_tourRefusal 27 = .ok (.if_icmp .ge 62, 3) := by decide +kernel
theorem dX7_tourRefusal_30 : decode cX7_tourRefusal 30 = .ok (.aload_n 1, 1) := by decide +kernel
theorem dX7_tourRefusal_31 : decode cX7_tourRefusal 31 = .ok (.iload_n 3, 1) := by decide +kernel
theorem dX7_tourRefusal_32 : decode cX7_tourRefusal 32 = .ok (.invokevirtual 309, 3) := by decide +kernel
theorem dX7_tourRefusal_35 : decode cX7_tourRefusal 35 = .ok (.istore 4, 2) := by decide +kernel
theorem dX7_tourRefusal_37 : decode cX7_tourRefusal 37 = .ok (.aload_n 0, 1) := by decide +kernel
theorem dX7_tourRefusal_38 : decode cX7_tourRefusal 38 = .ok (.getfield 10, 3) := by decide +kernel
theorem dX7_tourRefusal_41 : decode cX7_tourRefusal 41 = .ok (.iload 4, 2) := by decide +kernel
theorem dX7_tourRefusal_43 : decode cX7_tourRefusal 43 = .ok (.invokevirtual 130, 3) := by decide +kernel
theorem dX7_tourRefusal_46 : decode cX7_tourRefusal 46 = .ok (.ifCond .eq 27, 3) := by decide +kernel
theorem dX7_tourRefusal_49 : decode cX7_tourRefusal 49 = .ok (.aload_n 0, 1) := by decide +kernel
theorem dX7_tourRefusal_50 : decode cX7_tourRefusal 50 = .ok (.getfield 10, 3) := by decide +kernel
theorem dX7_tourRefusal_53 : decode cX7_tourRefusal 53 = .ok (.getfield 116, 3) := by decide +kernel
theorem dX7_tourRefusal_56 : decode cX7_tourRefusal 56 = .ok (.iload 4, 2) := by decide +kernel
theorem dX7_tourRefusal_58 : decode cX7_tourRefusal 58 = .ok (.invokestatic 126, 3) := by decide +kernel
theorem dX7_tourRefusal_61 : decode cX7_tourRefusal 61 = .ok (.ifCond .ne 12, 3) := by decide +kernel
theorem dX7_tourRefusal_64 : decode cX7_tourRefusal 64 = .ok (.iload_n 2, 1) := by decide +kernel
theorem dX7_tourRefusal_65 : decode cX7_tourRefusal 65 = .ok (.iload 4, 2) := by decide +kernel
theorem dX7_tourRefusal_67 : decode cX7_tourRefusal 67 = .ok (.invokestatic 212, 3) := by decide +kernel
theorem dX7_tourRefusal_70 : decode cX7_tourRefusal 70 = .ok (.ifCond .eq 6, 3) := by decide +kernel
theorem dX7_tourRefusal_73 : decode cX7_tourRefusal 73 = .ok (.bipush (-2), 2) := by decide +kernel
theorem dX7_tourRefusal_75 : decode cX7_tourRefusal 75 = .ok (.ireturn, 1) := by decide +kernel
theorem dX7_tourRefusal_76 : decode cX7_tourRefusal 76 = .ok (.iload_n 2, 1) := by decide +kernel
theorem dX7_tourRefusal_77 : decode cX7_tourRefusal 77 = .ok (.iconst 1, 1) := by decide +kernel
theorem dX7_tourRefusal_78 : decode cX7_tourRefusal 78 = .ok (.iload 4, 2) := by decide +kernel
theorem dX7_tourRefusal_80 : decode cX7_tourRefusal 80 = .ok (.ishl, 1) := by decide +kernel
theorem dX7_tourRefusal_81 : decode cX7_tourRefusal 81 = .ok (.ior, 1) := by decide +kernel
theorem dX7_tourRefusal_82 : decode cX7_tourRefusal 82 = .ok (.istore_n 2, 1) := by decide +kernel
theorem dX7_tourRefusal_83 : decode cX7_tourRefusal 83 = .ok (.iinc 3 1, 3) := by decide +kernel
theorem dX7_tourRefusal_86 : decode cX7_tourRefusal 86 = .ok (.goto (-64), 3) := by decide +kernel
theorem dX7_tourRefusal_89 : decode cX7_tourRefusal 89 = .ok (.iconst 0, 1) := by decide +kernel
theorem dX7_tourRefusal_90 : decode cX7_tourRefusal 90 = .ok (.ireturn, 1) := by decide +kernel
theorem dX7_canTell_0 : decode cX7_canTell 0 = .ok (.iload_n 1, 1) := by decide +kernel
theorem dX7_canTell_1 : decode cX7_canTell 1 = .ok (.ifCond .lt 8, 3) := by decide +kernel
theorem dX7_canTell_4 : decode cX7_canTell 4 = .ok (.iload_n 1, 1) := by decide +kernel
theorem dX7_canTell_5 : decode cX7_canTell 5 = .ok (.iconst 5, 1) := by decide +kernel
theorem dX7_canTell_6 : decode cX7_canTell 6 = .ok (.if_icmp .le 15, 3) := by decide +kernel
theorem dX7_canTell_9 : decode cX7_canTell 9 = .ok (.iload_n 1, 1) := by decide +kernel
theorem dX7_canTell_10 : decode cX7_canTell 10 = .ok (.bipush 10, 2) := by decide +kernel
theorem dX7_canTell_12 : decode cX7_canTell 12 = .ok (.if_icmp .lt 13, 3) := by decide +kernel
theorem dX7_canTell_15 : decode cX7_canTell 15 = .ok (.iload_n 1, 1) := by decide +kernel
theorem dX7_canTell_16 : decode cX7_canTell 16 = .ok (.bipush 34, 2) := by decide +kernel
theorem dX7_canTell_18 : decode cX7_canTell 18 = .ok (.if_icmp .ge 7, 3) := by decide +kernel
theorem dX7_canTell_21 : decode cX7_canTell 21 = .ok (.iconst 1, 1) := by decide +kernel
theorem dX7_canTell_22 : decode cX7_canTell 22 = .ok (.goto 4, 3) := by decide +kernel
theorem dX7_canTell_25 : decode cX7_canTell 25 = .ok (.iconst 0, 1) := by decide +kernel
theorem dX7_canTell_26 : decode cX7_canTell 26 = .ok (.ireturn, 1) := by decide +kernel
set_option maxRecDepth 20000 in
theorem ggX7_fitting_X7_choicesOf : GoodIn wsX7_fitting wsX7_choicesOf := goodIn_r _ [13, 14, 95, 96, 97, 98, 99, 100, 101, 102, 103, 104] rfl (by decide +kernel)
set_option maxRecDepth 20000 in
theorem gX7_fitting_X7_choicesOf : GoodIn wsX7_fitting (wsV RX7 320 RX7 yX7_choicesOf wsX7_choicesOf) := goodIn_app (goodIn_of _ (by decide +kernel)) ggX7_fitting_X7_choicesOf
set_option maxRecDepth 20000 in
theorem ggX7_fitting_X2_shakenCount : GoodIn wsX7_fitting wsX2_shakenCount := goodIn_r _ [19, 20, 21, 22, 12, 23, 105, 106, 107, 108, 109, 110, 111, 112] rfl (by decide +kernel)
set_option maxRecDepth 20000 in
theorem gX7_fitting_X2_shakenCount : GoodIn wsX7_fitting (wsV RX7 136 RX2 yX2_shakenCount wsX2_shakenCount) := goodIn_app (goodIn_of _ (by decide +kernel)) ggX7_fitting_X2_shakenCount
set_option maxRecDepth 20000 in
theorem ggX7_fitting_X0_regard : GoodIn wsX7_fitting wsX0_regard := goodIn_r _ [28, 29, 30, 31, 32, 33, 34, 35, 36, 37, 22, 12, 23, 38, 39, 105, 106, 107, 108, 109, 110, 111, 112, 113, 114, 115, 116] rfl (by decide +kernel)
set_option maxRecDepth 20000 in
theorem gX7_fitting_X0_regard : GoodIn wsX7_fitting (wsV RX7 139 RX0 yX0_regard wsX0_regard) := goodIn_app (goodIn_of _ (by decide +kernel)) ggX7_fitting_X0_regard
set_option maxRecDepth 20000 in
theorem ggX7_fitting_X7_suppose : GoodIn wsX7_fitting wsX7_suppose := goodIn_r _ [43, 8, 44, 45, 46, 3, 1, 47, 48, 38, 12, 39, 49, 50, 51, 52, 14, 53, 54, 22, 23, 95, 96, 97, 98, 99, 100, 101, 102, 103, 104, 113, 114, 115, 116, 105, 106, 107, 108, 109, 110, 111, 112] rfl (by decide +kernel)
set_option maxRecDepth 20000 in
theorem gX7_fitting_X7_suppose : GoodIn wsX7_fitting (wsV RX7 323 RX7 yX7_suppose wsX7_suppose) := goodIn_app (goodIn_of _ (by decide +kernel)) ggX7_fitting_X7_suppose
set_option maxRecDepth 20000 in
theorem ggX7_fitting_X0_firstOther : GoodIn wsX7_fitting wsX0_firstOther := goodIn_r _ [58, 59, 60, 61, 62, 27, 63, 35, 64, 65, 66, 67, 34, 38, 12, 39, 68, 69, 70, 71, 72, 73, 22, 23, 74, 75, 76, 77, 32, 30, 78, 79, 80, 81, 82, 83, 84, 85, 86, 87, 88, 89, 90, 91, 92, 93, 94, 117, 118, 119, 113, 114, 115, 116, 120, 121, 122, 123] rfl (by decide +kernel)
set_option maxRecDepth 20000 in
theorem gX7_fitting_X0_firstOther : GoodIn wsX7_fitting (wsV RX7 266 RX0 yX0_firstOther wsX0_firstOther) := goodIn_app (goodIn_of _ (by decide +kernel)) ggX7_fitting_X0_firstOther
theorem dX7_fitting_0 : decode cX7_fitting 0 = .ok (.aload_n 0, 1) := by decide +kernel
theorem dX7_fitting_1 : decode cX7_fitting 1 = .ok (.getfield 10, 3) := by decide +kernel
theorem dX7_fitting_4 : decode cX7_fitting 4 = .ok (.getfield 99, 3) := by decide +kernel
theorem dX7_fitting_7 : decode cX7_fitting 7 = .ok (.iconst 0, 1) := by decide +kernel
theorem dX7_fitting_8 : decode cX7_fitting 8 = .ok (.aload_n 0, 1) := by decide +kernel
theorem dX7_fitting_9 : decode cX7_fitting 9 = .ok (.getfield 52, 3) := by decide +kernel
theorem dX7_fitting_12 : decode cX7_fitting 12 = .ok (.iconst 0, 1) := by decide +kernel
theorem dX7_fitting_13 : decode cX7_fitting 13 = .ok (.aload_n 0, 1) := by decide +kernel
theorem dX7_fitting_14 : decode cX7_fitting 14 = .ok (.getfield 52, 3) := by decide +kernel
theorem dX7_fitting_17 : decode cX7_fitting 17 = .ok (.arraylength, 1) := by decide +kernel
theorem dX7_fitting_18 : decode cX7_fitting 18 = .ok (.invokestatic 303, 3) := by decide +kernel
theorem dX7_fitting_21 : decode cX7_fitting 21 = .ok (.aload_n 0, 1) := by decide +kernel
theorem dX7_fitting_22 : decode cX7_fitting 22 = .ok (.iload_n 3, 1) := by decide +kernel
theorem dX7_fitting_23 : decode cX7_fitting 23 = .ok (.invokevirtual 320, 3) := by decide +kernel
theorem dX7_fitting_26 : decode cX7_fitting 26 = .ok (.istore 4, 2) := by decide +kernel
theorem dX7_fitting_28 : decode cX7_fitting 28 = .ok (.iconst 0, 1) := by decide +kernel
theorem dX7_fitting_29 : decode cX7_fitting 29 = .ok (.istore 5, 2) := by decide +kernel
theorem dX7_fitting_31 : decode cX7_fitting 31 = .ok (.iconst 0, 1) := by decide +kernel
theorem dX7_fitting_32 : decode cX7_fitting 32 = .ok (.istore 6, 2) := by decide +kernel
theorem dX7_fitting_34 : decode cX7_fitting 34 = .ok (.iload 6, 2) := by decide +kernel
theorem dX7_fitting_36 : decode cX7_fitting 36 = .ok (.iload 4, 2) := by decide +kernel
theorem dX7_fitting_38 : decode cX7_fitting 38 = .ok (.if_icmp .ge 61, 3) := by decide +kernel
theorem dX7_fitting_41 : decode cX7_fitting 41 = .ok (.aload_n 0, 1) := by decide +kernel
theorem dX7_fitting_42 : decode cX7_fitting 42 = .ok (.getfield 41, 3) := by decide +kernel
theorem dX7_fitting_45 : decode cX7_fitting 45 = .ok (.aload_n 0, 1) := by decide +kernel
theorem dX7_fitting_46 : decode cX7_fitting 46 = .ok (.getfield 10, 3) := by decide +kernel
theorem dX7_fitting_49 : decode cX7_fitting 49 = .ok (.iload_n 2, 1) := by decide +kernel
theorem dX7_fitting_50 : decode cX7_fitting 50 = .ok (.aload_n 0, 1) := by decide +kernel
theorem dX7_fitting_51 : decode cX7_fitting 51 = .ok (.getfield 10, 3) := by decide +kernel
theorem dX7_fitting_54 : decode cX7_fitting 54 = .ok (.invokevirtual 136, 3) := by decide +kernel
theorem dX7_fitting_57 : decode cX7_fitting 57 = .ok (.invokevirtual 139, 3) := by decide +kernel
theorem dX7_fitting_60 : decode cX7_fitting 60 = .ok (.aload_n 0, 1) := by decide +kernel
theorem dX7_fitting_61 : decode cX7_fitting 61 = .ok (.iload_n 2, 1) := by decide +kernel
theorem dX7_fitting_62 : decode cX7_fitting 62 = .ok (.iload_n 3, 1) := by decide +kernel
theorem dX7_fitting_63 : decode cX7_fitting 63 = .ok (.iload 6, 2) := by decide +kernel
theorem dX7_fitting_65 : decode cX7_fitting 65 = .ok (.invokevirtual 323, 3) := by decide +kernel
theorem dX7_fitting_68 : decode cX7_fitting 68 = .ok (.aload_n 0, 1) := by decide +kernel
theorem dX7_fitting_69 : decode cX7_fitting 69 = .ok (.getfield 41, 3) := by decide +kernel
theorem dX7_fitting_72 : decode cX7_fitting 72 = .ok (.aload_n 1, 1) := by decide +kernel
theorem dX7_fitting_73 : decode cX7_fitting 73 = .ok (.aload_n 0, 1) := by decide +kernel
theorem dX7_fitting_74 : decode cX7_fitting 74 = .ok (.getfield 52, 3) := by decide +kernel
theorem dX7_fitting_77 : decode cX7_fitting 77 = .ok (.invokevirtual 266, 3) := by decide +kernel
theorem dX7_fitting_80 : decode cX7_fitting 80 = .ok (.iconst (-1), 1) := by decide +kernel
theorem dX7_fitting_81 : decode cX7_fitting 81 = .ok (.if_icmp .ne 12, 3) := by decide +kernel
theorem dX7_fitting_84 : decode cX7_fitting 84 = .ok (.iload 5, 2) := by decide +kernel
theorem dX7_fitting_86 : decode cX7_fitting 86 = .ok (.iconst 1, 1) := by decide +kernel
theorem dX7_fitting_87 : decode cX7_fitting 87 = .ok (.iload 6, 2) := by decide +kernel
theorem dX7_fitting_89 : decode cX7_fitting 89 = .ok (.ishl, 1) := by decide +kernel
theorem dX7_fitting_90 : decode cX7_fitting 90 = .ok (.ior, 1) := by decide +kernel
theorem dX7_fitting_91 : decode cX7_fitting 91 = .ok (.istore 5, 2) := by decide +kernel
theorem dX7_fitting_93 : decode cX7_fitting 93 = .ok (.iinc 6 1, 3) := by decide +kernel
theorem dX7_fitting_96 : decode cX7_fitting 96 = .ok (.goto (-62), 3) := by decide +kernel
theorem dX7_fitting_99 : decode cX7_fitting 99 = .ok (.iload 5, 2) := by decide +kernel
theorem dX7_fitting_101 : decode cX7_fitting 101 = .ok (.ireturn, 1) := by decide +kernel
theorem dX7_choicesOf_0 : decode cX7_choicesOf 0 = .ok (.iload_n 1, 1) := by decide +kernel
theorem dX7_choicesOf_1 : decode cX7_choicesOf 1 = .ok (.tableswitch 46 1 5 #[35, 46, 46, 38, 41], 35) := by decide +kernel
theorem dX7_choicesOf_36 : decode cX7_choicesOf 36 = .ok (.bipush 6, 2) := by decide +kernel
theorem dX7_choicesOf_38 : decode cX7_choicesOf 38 = .ok (.ireturn, 1) := by decide +kernel
theorem dX7_choicesOf_39 : decode cX7_choicesOf 39 = .ok (.bipush 7, 2) := by decide +kernel
theorem dX7_choicesOf_41 : decode cX7_choicesOf 41 = .ok (.ireturn, 1) := by decide +kernel
theorem dX7_choicesOf_42 : decode cX7_choicesOf 42 = .ok (.aload_n 0, 1) := by decide +kernel
theorem dX7_choicesOf_43 : decode cX7_choicesOf 43 = .ok (.getfield 163, 3) := by decide +kernel
theorem dX7_choicesOf_46 : decode cX7_choicesOf 46 = .ok (.ireturn, 1) := by decide +kernel
theorem dX7_choicesOf_47 : decode cX7_choicesOf 47 = .ok (.bipush 10, 2) := by decide +kernel
theorem dX7_choicesOf_49 : decode cX7_choicesOf 49 = .ok (.ireturn, 1) := by decide +kernel
set_option maxRecDepth 20000 in
theorem ggX7_suppose_X7_put : GoodIn wsX7_suppose wsX7_put := goodIn_r _ [11] rfl (by decide +kernel)
set_option maxRecDepth 20000 in
theorem gX7_suppose_X7_put : GoodIn wsX7_suppose (va_wsS RX7 106 yX7_put wsX7_put) := goodIn_app (goodIn_of _ (by decide +kernel)) ggX7_suppose_X7_put
set_option maxRecDepth 20000 in
theorem ggX7_suppose_X7_textAt : GoodIn wsX7_suppose wsX7_textAt := goodIn_r _ [15, 16, 17, 21, 22, 23, 24, 25, 26, 27, 28, 29, 30] rfl (by decide +kernel)
set_option maxRecDepth 20000 in
theorem gX7_suppose_X7_textAt : GoodIn wsX7_suppose (wsV RX7 81 RX7 yX7_textAt wsX7_textAt) := goodIn_app (goodIn_of _ (by decide +kernel)) ggX7_suppose_X7_textAt
set_option maxRecDepth 20000 in
theorem ggX7_suppose_X7_at : GoodIn wsX7_suppose wsX7_at := goodIn_r _ [20] rfl (by decide +kernel)
set_option maxRecDepth 20000 in
theorem gX7_suppose_X7_at : GoodIn wsX7_suppose (va_wsS RX7 126 yX7_at wsX7_at) := goodIn_app (goodIn_of _ (by decide +kernel)) ggX7_suppose_X7_at
theorem dX7_suppose_0 : decode cX7_suppose 0 = .ok (.iload_n 2, 1) := by decide +kernel
theorem dX7_suppose_1 : decode cX7_suppose 1 = .ok (.tableswitch 106 1 5 #[35, 46, 61, 76, 91], 35) := by decide +kernel
theorem dX7_suppose_36 : decode cX7_suppose 36 = .ok (.aload_n 0, 1) := by decide +kernel
theorem dX7_suppose_37 : decode cX7_suppose 37 = .ok (.getfield 41, 3) := by decide +kernel
theorem dX7_suppose_40 : decode cX7_suppose 40 = .ok (.iload_n 3, 1) := by decide +kernel
theorem dX7_suppose_41 : decode cX7_suppose 41 = .ok (.putfield 327, 3) := by decide +kernel
theorem dX7_suppose_44 : decode cX7_suppose 44 = .ok (.goto 90, 3) := by decide +kernel
theorem dX7_suppose_47 : decode cX7_suppose 47 = .ok (.aload_n 0, 1) := by decide +kernel
theorem dX7_suppose_48 : decode cX7_suppose 48 = .ok (.getfield 41, 3) := by decide +kernel
theorem dX7_suppose_51 : decode cX7_suppose 51 = .ok (.getfield 330, 3) := by decide +kernel
theorem dX7_suppose_54 : decode cX7_suppose 54 = .ok (.iconst 2, 1) := by decide +kernel
theorem dX7_suppose_55 : decode cX7_suppose 55 = .ok (.iload_n 3, 1) := by decide +kernel
theorem dX7_suppose_56 : decode cX7_suppose 56 = .ok (.invokestatic 106, 3) := by decide +kernel
theorem dX7_suppose_59 : decode cX7_suppose 59 = .ok (.goto 75, 3) := by decide +kernel
theorem dX7_suppose_62 : decode cX7_suppose 62 = .ok (.aload_n 0, 1) := by decide +kernel
theorem dX7_suppose_63 : decode cX7_suppose 63 = .ok (.getfield 41, 3) := by decide +kernel
theorem dX7_suppose_66 : decode cX7_suppose 66 = .ok (.getfield 330, 3) := by decide +kernel
theorem dX7_suppose_69 : decode cX7_suppose 69 = .ok (.iconst 5, 1) := by decide +kernel
theorem dX7_suppose_70 : decode cX7_suppose 70 = .ok (.iload_n 3, 1) := by decide +kernel
theorem dX7_suppose_71 : decode cX7_suppose 71 = .ok (.invokestatic 106, 3) := by decide +kernel
theorem dX7_suppose_74 : decode cX7_suppose 74 = .ok (.goto 60, 3) := by decide +kernel
theorem dX7_suppose_77 : decode cX7_suppose 77 = .ok (.aload_n 0, 1) := by decide +kernel
theorem dX7_suppose_78 : decode cX7_suppose 78 = .ok (.getfield 41, 3) := by decide +kernel
theorem dX7_suppose_81 : decode cX7_suppose 81 = .ok (.getfield 330, 3) := by decide +kernel
theorem dX7_suppose_84 : decode cX7_suppose 84 = .ok (.iconst 3, 1) := by decide +kernel
theorem dX7_suppose_85 : decode cX7_suppose 85 = .ok (.iload_n 3, 1) := by decide +kernel
theorem dX7_suppose_86 : decode cX7_suppose 86 = .ok (.invokestatic 106, 3) := by decide +kernel
theorem dX7_suppose_89 : decode cX7_suppose 89 = .ok (.goto 45, 3) := by decide +kernel
theorem dX7_suppose_92 : decode cX7_suppose 92 = .ok (.aload_n 0, 1) := by decide +kernel
theorem dX7_suppose_93 : decode cX7_suppose 93 = .ok (.getfield 41, 3) := by decide +kernel
theorem dX7_suppose_96 : decode cX7_suppose 96 = .ok (.aload_n 0, 1) := by decide +kernel
theorem dX7_suppose_97 : decode cX7_suppose 97 = .ok (.iload_n 3, 1) := by decide +kernel
theorem dX7_suppose_98 : decode cX7_suppose 98 = .ok (.invokevirtual 81, 3) := by decide +kernel
theorem dX7_suppose_101 : decode cX7_suppose 101 = .ok (.putfield 333, 3) := by decide +kernel
theorem dX7_suppose_104 : decode cX7_suppose 104 = .ok (.goto 30, 3) := by decide +kernel
theorem dX7_suppose_107 : decode cX7_suppose 107 = .ok (.aload_n 0, 1) := by decide +kernel
theorem dX7_suppose_108 : decode cX7_suppose 108 = .ok (.getfield 52, 3) := by decide +kernel
theorem dX7_suppose_111 : decode cX7_suppose 111 = .ok (.aload_n 0, 1) := by decide +kernel
theorem dX7_suppose_112 : decode cX7_suppose 112 = .ok (.getfield 10, 3) := by decide +kernel
theorem dX7_suppose_115 : decode cX7_suppose 115 = .ok (.getfield 113, 3) := by decide +kernel
theorem dX7_suppose_118 : decode cX7_suppose 118 = .ok (.iload_n 1, 1) := by decide +kernel
theorem dX7_suppose_119 : decode cX7_suppose 119 = .ok (.invokestatic 126, 3) := by decide +kernel
theorem dX7_suppose_122 : decode cX7_suppose 122 = .ok (.bipush 24, 2) := by decide +kernel
theorem dX7_suppose_124 : decode cX7_suppose 124 = .ok (.imul, 1) := by decide +kernel
theorem dX7_suppose_125 : decode cX7_suppose 125 = .ok (.iload_n 2, 1) := by decide +kernel
theorem dX7_suppose_126 : decode cX7_suppose 126 = .ok (.iadd, 1) := by decide +kernel
theorem dX7_suppose_127 : decode cX7_suppose 127 = .ok (.bipush 10, 2) := by decide +kernel
theorem dX7_suppose_129 : decode cX7_suppose 129 = .ok (.isub, 1) := by decide +kernel
theorem dX7_suppose_130 : decode cX7_suppose 130 = .ok (.iload_n 3, 1) := by decide +kernel
theorem dX7_suppose_131 : decode cX7_suppose 131 = .ok (.invokestatic 106, 3) := by decide +kernel
theorem dX7_suppose_134 : decode cX7_suppose 134 = .ok (.return_, 1) := by decide +kernel
theorem dX7_rainPlace_0 : decode cX7_rainPlace 0 = .ok (.iload_n 0, 1) := by decide +kernel
theorem dX7_rainPlace_1 : decode cX7_rainPlace 1 = .ok (.bipush 100, 2) := by decide +kernel
theorem dX7_rainPlace_3 : decode cX7_rainPlace 3 = .ok (.idiv, 1) := by decide +kernel
theorem dX7_rainPlace_4 : decode cX7_rainPlace 4 = .ok (.istore_n 1, 1) := by decide +kernel
theorem dX7_rainPlace_5 : decode cX7_rainPlace 5 = .ok (.iload_n 0, 1) := by decide +kernel
theorem dX7_rainPlace_6 : decode cX7_rainPlace 6 = .ok (.bipush 100, 2) := by decide +kernel
theorem dX7_rainPlace_8 : decode cX7_rainPlace 8 = .ok (.irem, 1) := by decide +kernel
theorem dX7_rainPlace_9 : decode cX7_rainPlace 9 = .ok (.istore_n 2, 1) := by decide +kernel
theorem dX7_rainPlace_10 : decode cX7_rainPlace 10 = .ok (.iload_n 0, 1) := by decide +kernel
theorem dX7_rainPlace_11 : decode cX7_rainPlace 11 = .ok (.ifCond .lt 14, 3) := by decide +kernel
theorem dX7_rainPlace_14 : decode cX7_rainPlace 14 = .ok (.iload_n 1, 1) := by decide +kernel
theorem dX7_rainPlace_15 : decode cX7_rainPlace 15 = .ok (.iconst 2, 1) := by decide +kernel
theorem dX7_rainPlace_16 : decode cX7_rainPlace 16 = .ok (.if_icmp .ge 9, 3) := by decide +kernel
theorem dX7_rainPlace_19 : decode cX7_rainPlace 19 = .ok (.iload_n 2, 1) := by decide +kernel
theorem dX7_rainPlace_20 : decode cX7_rainPlace 20 = .ok (.bipush 24, 2) := by decide +kernel
theorem dX7_rainPlace_22 : decode cX7_rainPlace 22 = .ok (.if_icmp .lt 7, 3) := by decide +kernel
theorem dX7_rainPlace_25 : decode cX7_rainPlace 25 = .ok (.iconst (-1), 1) := by decide +kernel
theorem dX7_rainPlace_26 : decode cX7_rainPlace 26 = .ok (.goto 9, 3) := by decide +kernel
theorem dX7_rainPlace_29 : decode cX7_rainPlace 29 = .ok (.iload_n 1, 1) := by decide +kernel
theorem dX7_rainPlace_30 : decode cX7_rainPlace 30 = .ok (.bipush 24, 2) := by decide +kernel
theorem dX7_rainPlace_32 : decode cX7_rainPlace 32 = .ok (.imul, 1) := by decide +kernel
theorem dX7_rainPlace_33 : decode cX7_rainPlace 33 = .ok (.iload_n 2, 1) := by decide +kernel
theorem dX7_rainPlace_34 : decode cX7_rainPlace 34 = .ok (.iadd, 1) := by decide +kernel
theorem dX7_rainPlace_35 : decode cX7_rainPlace 35 = .ok (.ireturn, 1) := by decide +kernel
theorem dX7_commonDivisor_0 : decode cX7_commonDivisor 0 = .ok (.iload_n 1, 1) := by decide +kernel
theorem dX7_commonDivisor_1 : decode cX7_commonDivisor 1 = .ok (.istore_n 2, 1) := by decide +kernel
theorem dX7_commonDivisor_2 : decode cX7_commonDivisor 2 = .ok (.iload_n 0, 1) := by decide +kernel
theorem dX7_commonDivisor_3 : decode cX7_commonDivisor 3 = .ok (.istore_n 3, 1) := by decide +kernel
theorem dX7_commonDivisor_4 : decode cX7_commonDivisor 4 = .ok (.iconst 0, 1) := by decide +kernel
theorem dX7_commonDivisor_5 : decode cX7_commonDivisor 5 = .ok (.istore 4, 2) := by decide +kernel
theorem dX7_commonDivisor_7 : decode cX7_commonDivisor 7 = .ok (.iload 4, 2) := by decide +kernel
theorem dX7_commonDivisor_9 : decode cX7_commonDivisor 9 = .ok (.bipush 50, 2) := by decide +kernel
theorem dX7_commonDivisor_11 : decode cX7_commonDivisor 11 = .ok (.if_icmp .ge 23, 3) := by decide +kernel
theorem dX7_commonDivisor_14 : decode cX7_commonDivisor 14 = .ok (.iload_n 3, 1) := by decide +kernel
theorem dX7_commonDivisor_15 : decode cX7_commonDivisor 15 = .ok (.ifCond .eq 19, 3) := by decide +kernel
theorem dX7_commonDivisor_18 : decode cX7_commonDivisor 18 = .ok (.iload_n 2, 1) := by decide +kernel
theorem dX7_commonDivisor_19 : decode cX7_commonDivisor 19 = .ok (.iload_n 3, 1) := by decide +kernel
theorem dX7_commonDivisor_20 : decode cX7_commonDivisor 20 = .ok (.irem, 1) := by decide +kernel
theorem dX7_commonDivisor_21 : decode cX7_commonDivisor 21 = .ok (.istore 5, 2) := by decide +kernel
theorem dX7_commonDivisor_23 : decode cX7_commonDivisor 23 = .ok (.iload_n 3, 1) := by decide +kernel
theorem dX7_commonDivisor_24 : decode cX7_commonDivisor 24 = .ok (.istore_n 2, 1) := by decide +kernel
theorem dX7_commonDivisor_25 : decode cX7_commonDivisor 25 = .ok (.iload 5, 2) := by decide +kernel
theorem dX7_commonDivisor_27 : decode cX7_commonDivisor 27 = .ok (.istore_n 3, 1) := by decide +kernel
theorem dX7_commonDivisor_28 : decode cX7_commonDivisor 28 = .ok (.iinc 4 1, 3) := by decide +kernel
theorem dX7_commonDivisor_31 : decode cX7_commonDivisor 31 = .ok (.goto (-24), 3) := by decide +kernel
theorem dX7_commonDivisor_34 : decode cX7_commonDivisor 34 = .ok (.iload_n 2, 1) := by decide +kernel
theorem dX7_commonDivisor_35 : decode cX7_commonDivisor 35 = .ok (.ireturn, 1) := by decide +kernel
theorem dX7_at_0 : decode cX7_at 0 = .ok (.aload_n 0, 1) := by decide +kernel
theorem dX7_at_1 : decode cX7_at 1 = .ok (.ifnull 19, 3) := by decide +kernel
theorem dX7_at_4 : decode cX7_at 4 = .ok (.iload_n 1, 1) := by decide +kernel
theorem dX7_at_5 : decode cX7_at 5 = .ok (.ifCond .lt 15, 3) := by decide +kernel
theorem dX7_at_8 : decode cX7_at 8 = .ok (.iload_n 1, 1) := by decide +kernel
theorem dX7_at_9 : decode cX7_at 9 = .ok (.aload_n 0, 1) := by decide +kernel
theorem dX7_at_10 : decode cX7_at 10 = .ok (.arraylength, 1) := by decide +kernel
theorem dX7_at_11 : decode cX7_at 11 = .ok (.if_icmp .ge 9, 3) := by decide +kernel
theorem dX7_at_14 : decode cX7_at 14 = .ok (.aload_n 0, 1) := by decide +kernel
theorem dX7_at_15 : decode cX7_at 15 = .ok (.iload_n 1, 1) := by decide +kernel
theorem dX7_at_16 : decode cX7_at 16 = .ok (.iaload, 1) := by decide +kernel
theorem dX7_at_17 : decode cX7_at 17 = .ok (.goto 4, 3) := by decide +kernel
theorem dX7_at_20 : decode cX7_at 20 = .ok (.iconst 0, 1) := by decide +kernel
theorem dX7_at_21 : decode cX7_at 21 = .ok (.ireturn, 1) := by decide +kernel
theorem dX7_put_0 : decode cX7_put 0 = .ok (.aload_n 0, 1) := by decide +kernel
theorem dX7_put_1 : decode cX7_put 1 = .ok (.ifnull 17, 3) := by decide +kernel
theorem dX7_put_4 : decode cX7_put 4 = .ok (.iload_n 1, 1) := by decide +kernel
theorem dX7_put_5 : decode cX7_put 5 = .ok (.ifCond .lt 13, 3) := by decide +kernel
theorem dX7_put_8 : decode cX7_put 8 = .ok (.iload_n 1, 1) := by decide +kernel
theorem dX7_put_9 : decode cX7_put 9 = .ok (.aload_n 0, 1) := by decide +kernel
theorem dX7_put_10 : decode cX7_put 10 = .ok (.arraylength, 1) := by decide +kernel
theorem dX7_put_11 : decode cX7_put 11 = .ok (.if_icmp .ge 7, 3) := by decide +kernel
theorem dX7_put_14 : decode cX7_put 14 = .ok (.aload_n 0, 1) := by decide +kernel
theorem dX7_put_15 : decode cX7_put 15 = .ok (.iload_n 1, 1) := by decide +kernel
theorem dX7_put_16 : decode cX7_put 16 = .ok (.iload_n 2, 1) := by decide +kernel
theorem dX7_put_17 : decode cX7_put 17 = .ok (.iastore, 1) := by decide +kernel
theorem dX7_put_18 : decode cX7_put 18 = .ok (.return_, 1) := by decide +kernel
theorem dX7_hasBit_0 : decode cX7_hasBit 0 = .ok (.iload_n 1, 1) := by decide +kernel
theorem dX7_hasBit_1 : decode cX7_hasBit 1 = .ok (.ifCond .lt 21, 3) := by decide +kernel
theorem dX7_hasBit_4 : decode cX7_hasBit 4 = .ok (.iload_n 1, 1) := by decide +kernel
theorem dX7_hasBit_5 : decode cX7_hasBit 5 = .ok (.bipush 31, 2) := by decide +kernel
theorem dX7_hasBit_7 : decode cX7_hasBit 7 = .ok (.if_icmp .ge 15, 3) := by decide +kernel
theorem dX7_hasBit_10 : decode cX7_hasBit 10 = .ok (.iload_n 0, 1) := by decide +kernel
theorem dX7_hasBit_11 : decode cX7_hasBit 11 = .ok (.iload_n 1, 1) := by decide +kernel
theorem dX7_hasBit_12 : decode cX7_hasBit 12 = .ok (.ishr, 1) := by decide +kernel
theorem dX7_hasBit_13 : decode cX7_hasBit 13 = .ok (.iconst 1, 1) := by decide +kernel
theorem dX7_hasBit_14 : decode cX7_hasBit 14 = .ok (.iand, 1) := by decide +kernel
theorem dX7_hasBit_15 : decode cX7_hasBit 15 = .ok (.ifCond .eq 7, 3) := by decide +kernel
theorem dX7_hasBit_18 : decode cX7_hasBit 18 = .ok (.iconst 1, 1) := by decide +kernel
theorem dX7_hasBit_19 : decode cX7_hasBit 19 = .ok (.goto 4, 3) := by decide +kernel
theorem dX7_hasBit_22 : decode cX7_hasBit 22 = .ok (.iconst 0, 1) := by decide +kernel
theorem dX7_hasBit_23 : decode cX7_hasBit 23 = .ok (.ireturn, 1) := by decide +kernel
theorem dX7_bound_0 : decode cX7_bound 0 = .ok (.iload_n 0, 1) := by decide +kernel
theorem dX7_bound_1 : decode cX7_bound 1 = .ok (.iload_n 1, 1) := by decide +kernel
theorem dX7_bound_2 : decode cX7_bound 2 = .ok (.if_icmp .ge 7, 3) := by decide +kernel
theorem dX7_bound_5 : decode cX7_bound 5 = .ok (.iload_n 1, 1) := by decide +kernel
theorem dX7_bound_6 : decode cX7_bound 6 = .ok (.goto 13, 3) := by decide +kernel
theorem dX7_bound_9 : decode cX7_bound 9 = .ok (.iload_n 0, 1) := by decide +kernel
theorem dX7_bound_10 : decode cX7_bound 10 = .ok (.iload_n 2, 1) := by decide +kernel
theorem dX7_bound_11 : decode cX7_bound 11 = .ok (.if_icmp .le 7, 3) := by decide +kernel
theorem dX7_bound_14 : decode cX7_bound 14 = .ok (.iload_n 2, 1) := by decide +kernel
theorem dX7_bound_15 : decode cX7_bound 15 = .ok (.goto 4, 3) := by decide +kernel
theorem dX7_bound_18 : decode cX7_bound 18 = .ok (.iload_n 0, 1) := by decide +kernel
theorem dX7_bound_19 : decode cX7_bound 19 = .ok (.ireturn, 1) := by decide +kernel
theorem dX8_in_0 : decode cX8_in 0 = .ok (.lload_n 0, 1) := by decide +kernel
theorem dX8_in_1 : decode cX8_in 1 = .ok (.lload_n 2, 1) := by decide +kernel
theorem dX8_in_2 : decode cX8_in 2 = .ok (.lcmp, 1) := by decide +kernel
theorem dX8_in_3 : decode cX8_in 3 = .ok (.ifCond .lt 14, 3) := by decide +kernel
theorem dX8_in_6 : decode cX8_in 6 = .ok (.lload_n 0, 1) := by decide +kernel
theorem dX8_in_7 : decode cX8_in 7 = .ok (.lload 4, 2) := by decide +kernel
theorem dX8_in_9 : decode cX8_in 9 = .ok (.lcmp, 1) := by decide +kernel
theorem dX8_in_10 : decode cX8_in 10 = .ok (.ifCond .gt 7, 3) := by decide +kernel
theorem dX8_in_13 : decode cX8_in 13 = .ok (.iconst 1, 1) := by decide +kernel
theorem dX8_in_14 : decode cX8_in 14 = .ok (.goto 4, 3) := by decide +kernel
theorem dX8_in_17 : decode cX8_in 17 = .ok (.iconst 0, 1) := by decide +kernel
theorem dX8_in_18 : decode cX8_in 18 = .ok (.ireturn, 1) := by decide +kernel
theorem dX8_within_0 : decode cX8_within 0 = .ok (.iload_n 0, 1) := by decide +kernel
theorem dX8_within_1 : decode cX8_within 1 = .ok (.iload_n 1, 1) := by decide +kernel
theorem dX8_within_2 : decode cX8_within 2 = .ok (.if_icmp .ge 7, 3) := by decide +kernel
theorem dX8_within_5 : decode cX8_within 5 = .ok (.iload_n 1, 1) := by decide +kernel
theorem dX8_within_6 : decode cX8_within 6 = .ok (.goto 13, 3) := by decide +kernel
theorem dX8_within_9 : decode cX8_within 9 = .ok (.iload_n 0, 1) := by decide +kernel
theorem dX8_within_10 : decode cX8_within 10 = .ok (.iload_n 2, 1) := by decide +kernel
theorem dX8_within_11 : decode cX8_within 11 = .ok (.if_icmp .le 7, 3) := by decide +kernel
theorem dX8_within_14 : decode cX8_within 14 = .ok (.iload_n 2, 1) := by decide +kernel
theorem dX8_within_15 : decode cX8_within 15 = .ok (.goto 4, 3) := by decide +kernel
theorem dX8_within_18 : decode cX8_within 18 = .ok (.iload_n 0, 1) := by decide +kernel
theorem dX8_within_19 : decode cX8_within 19 = .ok (.ireturn, 1) := by decide +kernel
set_option maxRecDepth 20000 in
theorem ggX8_init_X8_spell : GoodIn wsX8_init wsX8_spell := goodIn_r _ [25, 5, 26, 27, 28, 29, 30, 31, 32, 33, 34, 35, 36, 37, 38, 39, 40, 41, 42, 43, 44, 45, 46, 47, 48, 49, 50, 51, 52, 53, 54, 55, 56, 57, 58, 59, 60, 61, 62, 63, 64, 65, 66, 67, 68, 69] rfl (by decide +kernel)
set_option maxRecDepth 20000 in
theorem gX8_init_X8_spell : GoodIn wsX8_init (wsV RX8 57 RX8 yX8_spell wsX8_spell) := goodIn_app (goodIn_of _ (by decide +kernel)) ggX8_init_X8_spell
theorem dX8_init_0 : decode cX8_init 0 = .ok (.aload_n 0, 1) := by decide +kernel
theorem dX8_init_1 : decode cX8_init 1 = .ok (.invokespecial 7, 3) := by decide +kernel
theorem dX8_init_4 : decode cX8_init 4 = .ok (.aload_n 0, 1) := by decide +kernel
theorem dX8_init_5 : decode cX8_init 5 = .ok (.sipush 960, 3) := by decide +kernel
theorem dX8_init_8 : decode cX8_init 8 = .ok (.newarray .int, 2) := by decide +kernel
theorem dX8_init_10 : decode cX8_init 10 = .ok (.putfield 13, 3) := by decide +kernel
theorem dX8_init_13 : decode cX8_init 13 = .ok (.aload_n 0, 1) := by decide +kernel
theorem dX8_init_14 : decode cX8_init 14 = .ok (.bipush 6, 2) := by decide +kernel
theorem dX8_init_16 : decode cX8_init 16 = .ok (.newarray .int, 2) := by decide +kernel
theorem dX8_init_18 : decode cX8_init 18 = .ok (.putfield 17, 3) := by decide +kernel
theorem dX8_init_21 : decode cX8_init 21 = .ok (.aload_n 0, 1) := by decide +kernel
theorem dX8_init_22 : decode cX8_init 22 = .ok (.sipush 160, 3) := by decide +kernel
theorem dX8_init_25 : decode cX8_init 25 = .ok (.newarray .int, 2) := by decide +kernel
theorem dX8_init_27 : decode cX8_init 27 = .ok (.putfield 20, 3) := by decide +kernel
theorem dX8_init_30 : decode cX8_init 30 = .ok (.aload_n 0, 1) := by decide +kernel
theorem dX8_init_31 : decode cX8_init 31 = .ok (.bipush 48, 2) := by decide +kernel
theorem dX8_init_33 : decode cX8_init 33 = .ok (.newarray .int, 2) := by decide +kernel
theorem dX8_init_35 : decode cX8_init 35 = .ok (.putfield 23, 3) := by decide +kernel
theorem dX8_init_38 : decode cX8_init 38 = .ok (.aload_n 0, 1) := by decide +kernel
theorem dX8_init_39 : decode cX8_init 39 = .ok (.bipush 6, 2) := by decide +kernel
theorem dX8_init_41 : decode cX8_init 41 = .ok (.newarray .int, 2) := by decide +kernel
theorem dX8_init_43 : decode cX8_init 43 = .ok (.putfield 26, 3) := by decide +kernel
theorem dX8_init_46 : decode cX8_init 46 = .ok (.aload_n 0, 1) := by decide +kernel
theorem dX8_init_47 : decode cX8_init 47 = .ok (.bipush 18, 2) := by decide +kernel
theorem dX8_init_49 : decode cX8_init 49 = .ok (.newarray .int, 2) := by decide +kernel
theorem dX8_init_51 : decode cX8_init 51 = .ok (.putfield 29, 3) := by decide +kernel
theorem dX8_init_54 : decode cX8_init 54 = .ok (.aload_n 0, 1) := by decide +kernel
theorem dX8_init_55 : decode cX8_init 55 = .ok (.bipush 48, 2) := by decide +kernel
theorem dX8_init_57 : decode cX8_init 57 = .ok (.newarray .int, 2) := by decide +kernel
theorem dX8_init_59 : decode cX8_init 59 = .ok (.putfield 32, 3) := by decide +kernel
theorem dX8_init_62 : decode cX8_init 62 = .ok (.aload_n 0, 1) := by decide +kernel
theorem dX8_init_63 : decode cX8_init 63 = .ok (.bipush 48, 2) := by decide +kernel
theorem dX8_init_65 : decode cX8_init 65 = .ok (.newarray .int, 2) := by decide +kernel
theorem dX8_init_67 : decode cX8_init 67 = .ok (.putfield 35, 3) := by decide +kernel
theorem dX8_init_70 : decode cX8_init 70 = .ok (.aload_n 0, 1) := by decide +kernel
theorem dX8_init_71 : decode cX8_init 71 = .ok (.bipush 18, 2) := by decide +kernel
theorem dX8_init_73 : decode cX8_init 73 = .ok (.newarray .int, 2) := by decide +kernel
theorem dX8_init_75 : decode cX8_init 75 = .ok (.putfield 38, 3) := by decide +kernel
theorem dX8_init_78 : decode cX8_init 78 = .ok (.aload_n 0, 1) := by decide +kernel
theorem dX8_init_79 : decode cX8_init 79 = .ok (.iconst (-1), 1) := by decide +kernel
theorem dX8_init_80 : decode cX8_init 80 = .ok (.putfield 41, 3) := by decide +kernel
theorem dX8_init_83 : decode cX8_init 83 = .ok (.aload_n 0, 1) := by decide +kernel
theorem dX8_init_84 : decode cX8_init 84 = .ok (.iconst 4, 1) := by decide +kernel
theorem dX8_init_85 : decode cX8_init 85 = .ok (.newarray .boolean, 2) := by decide +kernel
theorem dX8_init_87 : decode cX8_init 87 = .ok (.putfield 44, 3) := by decide +kernel
theorem dX8_init_90 : decode cX8_init 90 = .ok (.aload_n 0, 1) := by decide +kernel
theorem dX8_init_91 : decode cX8_init 91 = .ok (.iconst 4, 1) := by decide +kernel
theorem dX8_init_92 : decode cX8_init 92 = .ok (.newarray .int, 2) := by decide +kernel
theorem dX8_init_94 : decode cX8_init 94 = .ok (.putfield 48, 3) := by decide +kernel
theorem dX8_init_97 : decode cX8_init 97 = .ok (.aload_n 0, 1) := by decide +kernel
theorem dX8_init_98 : decode cX8_init 98 = .ok (.iconst 4, 1) := by decide +kernel
theorem dX8_init_99 : decode cX8_init 99 = .ok (.newarray .int, 2) := by decide +kernel
theorem dX8_init_101 : decode cX8_init 101 = .ok (.putfield 51, 3) := by decide +kernel
theorem dX8_init_104 : decode cX8_init 104 = .ok (.aload_n 0, 1) := by decide +kernel
theorem dX8_init_105 : decode cX8_init 105 = .ok (.sipush 160, 3) := by decide +kernel
theorem dX8_init_108 : decode cX8_init 108 = .ok (.newarray .int, 2) := by decide +kernel
theorem dX8_init_110 : decode cX8_init 110 = .ok (.putfield 54, 3) := by decide +kernel
theorem dX8_init_113 : decode cX8_init 113 = .ok (.aload_n 0, 1) := by decide +kernel
theorem dX8_init_114 : decode cX8_init 114 = .ok (.iconst 0, 1) := by decide +kernel
theorem dX8_init_115 : decode cX8_init 115 = .ok (.bipush 110, 2) := by decide +kernel
theorem dX8_init_117 : decode cX8_init 117 = .ok (.bipush 101, 2) := by decide +kernel
theorem dX8_init_119 : decode cX8_init 119 = .ok (.bipush 101, 2) := by decide +kernel
theorem dX8_init_121 : decode cX8_init 121 = .ok (.bipush 100, 2) := by decide +kernel
theorem dX8_init_123 : decode cX8_init 123 = .ok (.bipush 115, 2) := by decide +kernel
theorem dX8_init_125 : decode cX8_init 125 = .ok (.bipush 32, 2) := by decide +kernel
theorem dX8_init_127 : decode cX8_init 127 = .ok (.bipush 50, 2) := by decide +kernel
theorem dX8_init_129 : decode cX8_init 129 = .ok (.bipush 32, 2) := by decide +kernel
theorem dX8_init_131 : decode cX8_init 131 = .ok (.invokevirtual 57, 3) := by decide +kernel
theorem dX8_init_134 : decode cX8_init 134 = .ok (.aload_n 0, 1) := by decide +kernel
theorem dX8_init_135 : decode cX8_init 135 = .ok (.bipush 8, 2) := by decide +kernel
