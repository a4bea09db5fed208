theorem dX11_can_23 : decode cX11_can 23 = .ok (.goto 4, 3) := by decide +kernel
theorem dX11_can_26 : decode cX11_can 26 = .ok (.iconst (-1), 1) := by decide +kernel
theorem dX11_can_27 : decode cX11_can 27 = .ok (.ireturn, 1) := by decide +kernel
set_option maxRecDepth 20000 in
theorem ggX11_nights_X11_isPerson : GoodIn wsX11_nights wsX11_isPerson := goodIn_r _ [9, 10, 36, 37, 38, 39, 40, 41, 42, 43, 44, 45, 46, 47, 48, 49, 50, 51] (by decide +kernel) (by decide +kernel)
set_option maxRecDepth 20000 in
theorem gX11_nights_X11_isPerson : GoodIn wsX11_nights (wsV RX11 78 RX11 yX11_isPerson wsX11_isPerson) := goodIn_app (goodIn_of _ (by decide +kernel)) ggX11_nights_X11_isPerson
set_option maxRecDepth 20000 in
theorem ggX11_nights_X11_isLand : GoodIn wsX11_nights wsX11_isLand := goodIn_r _ [13] (by decide +kernel) (by decide +kernel)
set_option maxRecDepth 20000 in
theorem gX11_nights_X11_isLand : GoodIn wsX11_nights (va_wsS RX11 70 yX11_isLand wsX11_isLand) := goodIn_app (goodIn_of _ (by decide +kernel)) ggX11_nights_X11_isLand
set_option maxRecDepth 20000 in
theorem ggX11_nights_X11_areDays : GoodIn wsX11_nights wsX11_areDays := goodIn_r _ [16, 17, 18, 8, 19] (by decide +kernel) (by decide +kernel)
set_option maxRecDepth 20000 in
theorem gX11_nights_X11_areDays : GoodIn wsX11_nights (va_wsS RX11 81 yX11_areDays wsX11_areDays) := goodIn_app (goodIn_of _ (by decide +kernel)) ggX11_nights_X11_areDays
set_option maxRecDepth 20000 in
theorem ggX11_nights_X8_sum : GoodIn wsX11_nights wsX8_sum := goodIn_r _ [24, 25, 26, 27, 28, 29, 30, 31, 32, 33, 23, 34, 35, 52, 53, 54] (by decide +kernel) (by decide +kernel)
set_option maxRecDepth 20000 in
theorem gX11_nights_X8_sum : GoodIn wsX11_nights (wsV RX11 137 RX8 yX8_sum wsX8_sum) := goodIn_app (goodIn_of _ (by decide +kernel)) ggX11_nights_X8_sum
theorem dX11_nights_0 : decode cX11_nights 0 = .ok (.aload_n 0, 1) := by decide +kernel
theorem dX11_nights_1 : decode cX11_nights 1 = .ok (.iload_n 1, 1) := by decide +kernel
theorem dX11_nights_2 : decode cX11_nights 2 = .ok (.invokevirtual 78, 3) := by decide +kernel
theorem dX11_nights_5 : decode cX11_nights 5 = .ok (.ifCond .eq 19, 3) := by decide +kernel
theorem dX11_nights_8 : decode cX11_nights 8 = .ok (.iload_n 2, 1) := by decide +kernel
theorem dX11_nights_9 : decode cX11_nights 9 = .ok (.invokestatic 70, 3) := by decide +kernel
theorem dX11_nights_12 : decode cX11_nights 12 = .ok (.ifCond .eq 12, 3) := by decide +kernel
theorem dX11_nights_15 : decode cX11_nights 15 = .ok (.iload_n 3, 1) := by decide +kernel
theorem dX11_nights_16 : decode cX11_nights 16 = .ok (.iload 4, 2) := by decide +kernel
theorem dX11_nights_18 : decode cX11_nights 18 = .ok (.invokestatic 81, 3) := by decide +kernel
theorem dX11_nights_21 : decode cX11_nights 21 = .ok (.ifCond .ne 5, 3) := by decide +kernel
theorem dX11_nights_24 : decode cX11_nights 24 = .ok (.iconst (-1), 1) := by decide +kernel
theorem dX11_nights_25 : decode cX11_nights 25 = .ok (.ireturn, 1) := by decide +kernel
theorem dX11_nights_26 : decode cX11_nights 26 = .ok (.aload_n 0, 1) := by decide +kernel
theorem dX11_nights_27 : decode cX11_nights 27 = .ok (.getfield 57, 3) := by decide +kernel
theorem dX11_nights_30 : decode cX11_nights 30 = .ok (.iload_n 2, 1) := by decide +kernel
theorem dX11_nights_31 : decode cX11_nights 31 = .ok (.aaload, 1) := by decide +kernel
theorem dX11_nights_32 : decode cX11_nights 32 = .ok (.astore 6, 2) := by decide +kernel
theorem dX11_nights_34 : decode cX11_nights 34 = .ok (.aload 6, 2) := by decide +kernel
theorem dX11_nights_36 : decode cX11_nights 36 = .ok (.aload_n 0, 1) := by decide +kernel
theorem dX11_nights_37 : decode cX11_nights 37 = .ok (.getfield 22, 3) := by decide +kernel
theorem dX11_nights_40 : decode cX11_nights 40 = .ok (.iload_n 1, 1) := by decide +kernel
theorem dX11_nights_41 : decode cX11_nights 41 = .ok (.aaload, 1) := by decide +kernel
theorem dX11_nights_42 : decode cX11_nights 42 = .ok (.iload_n 3, 1) := by decide +kernel
theorem dX11_nights_43 : decode cX11_nights 43 = .ok (.iload 4, 2) := by decide +kernel
theorem dX11_nights_45 : decode cX11_nights 45 = .ok (.invokevirtual 137, 3) := by decide +kernel
theorem dX11_nights_48 : decode cX11_nights 48 = .ok (.iload 5, 2) := by decide +kernel
theorem dX11_nights_50 : decode cX11_nights 50 = .ok (.ifCond .eq 11, 3) := by decide +kernel
theorem dX11_nights_53 : decode cX11_nights 53 = .ok (.aload 6, 2) := by decide +kernel
theorem dX11_nights_55 : decode cX11_nights 55 = .ok (.getfield 141, 3) := by decide +kernel
theorem dX11_nights_58 : decode cX11_nights 58 = .ok (.goto 8, 3) := by decide +kernel
theorem dX11_nights_61 : decode cX11_nights 61 = .ok (.aload 6, 2) := by decide +kernel
theorem dX11_nights_63 : decode cX11_nights 63 = .ok (.getfield 144, 3) := by decide +kernel
theorem dX11_nights_66 : decode cX11_nights 66 = .ok (.ireturn, 1) := by decide +kernel
set_option maxRecDepth 20000 in
theorem ggX11_sure_X11_isPerson : GoodIn wsX11_sure wsX11_isPerson := goodIn_r _ [6, 7, 21, 22, 23, 24, 25, 26, 27, 28, 29, 30, 31, 32, 33, 34, 35, 36] (by decide +kernel) (by decide +kernel)
set_option maxRecDepth 20000 in
theorem gX11_sure_X11_isPerson : GoodIn wsX11_sure (wsV RX11 78 RX11 yX11_isPerson wsX11_isPerson) := goodIn_app (goodIn_of _ (by decide +kernel)) ggX11_sure_X11_isPerson
set_option maxRecDepth 20000 in
theorem ggX11_sure_X11_areDays : GoodIn wsX11_sure wsX11_areDays := goodIn_r _ [10, 11, 12, 5, 13] (by decide +kernel) (by decide +kernel)
set_option maxRecDepth 20000 in
theorem gX11_sure_X11_areDays : GoodIn wsX11_sure (va_wsS RX11 81 yX11_areDays wsX11_areDays) := goodIn_app (goodIn_of _ (by decide +kernel)) ggX11_sure_X11_areDays
set_option maxRecDepth 20000 in
theorem ggX11_sure_J6_bitCount_0f7a4 : GoodIn wsX11_sure wsJ6_bitCount_0f7a4 := goodIn_r _ [17, 18, 19, 20] (by decide +kernel) (by decide +kernel)
set_option maxRecDepth 20000 in
theorem gX11_sure_J6_bitCount_0f7a4 : GoodIn wsX11_sure (va_wsS RX11 147 yJ6_bitCount_0f7a4 wsJ6_bitCount_0f7a4) := goodIn_app (goodIn_of _ (by decide +kernel)) ggX11_sure_J6_bitCount_0f7a4
theorem dX11_sure_0 : decode cX11_sure 0 = .ok (.aload_n 0, 1) := by decide +kernel
theorem dX11_sure_1 : decode cX11_sure 1 = .ok (.iload_n 1, 1) := by decide +kernel
theorem dX11_sure_2 : decode cX11_sure 2 = .ok (.invokevirtual 78, 3) := by decide +kernel
theorem dX11_sure_5 : decode cX11_sure 5 = .ok (.ifCond .eq 11, 3) := by decide +kernel
theorem dX11_sure_8 : decode cX11_sure 8 = .ok (.iload_n 2, 1) := by decide +kernel
theorem dX11_sure_9 : decode cX11_sure 9 = .ok (.iload_n 3, 1) := by decide +kernel
theorem dX11_sure_10 : decode cX11_sure 10 = .ok (.invokestatic 81, 3) := by decide +kernel
theorem dX11_sure_13 : decode cX11_sure 13 = .ok (.ifCond .ne 5, 3) := by decide +kernel
theorem dX11_sure_16 : decode cX11_sure 16 = .ok (.iconst (-1), 1) := by decide +kernel
theorem dX11_sure_17 : decode cX11_sure 17 = .ok (.ireturn, 1) := by decide +kernel
theorem dX11_sure_18 : decode cX11_sure 18 = .ok (.iconst 0, 1) := by decide +kernel
theorem dX11_sure_19 : decode cX11_sure 19 = .ok (.istore 4, 2) := by decide +kernel
theorem dX11_sure_21 : decode cX11_sure 21 = .ok (.iload_n 2, 1) := by decide +kernel
theorem dX11_sure_22 : decode cX11_sure 22 = .ok (.istore 5, 2) := by decide +kernel
theorem dX11_sure_24 : decode cX11_sure 24 = .ok (.iload 5, 2) := by decide +kernel
theorem dX11_sure_26 : decode cX11_sure 26 = .ok (.iload_n 3, 1) := by decide +kernel
theorem dX11_sure_27 : decode cX11_sure 27 = .ok (.if_icmp .gt 28, 3) := by decide +kernel
theorem dX11_sure_30 : decode cX11_sure 30 = .ok (.aload_n 0, 1) := by decide +kernel
theorem dX11_sure_31 : decode cX11_sure 31 = .ok (.getfield 22, 3) := by decide +kernel
theorem dX11_sure_34 : decode cX11_sure 34 = .ok (.iload_n 1, 1) := by decide +kernel
theorem dX11_sure_35 : decode cX11_sure 35 = .ok (.aaload, 1) := by decide +kernel
theorem dX11_sure_36 : decode cX11_sure 36 = .ok (.iload 5, 2) := by decide +kernel
theorem dX11_sure_38 : decode cX11_sure 38 = .ok (.iaload, 1) := by decide +kernel
theorem dX11_sure_39 : decode cX11_sure 39 = .ok (.invokestatic 147, 3) := by decide +kernel
theorem dX11_sure_42 : decode cX11_sure 42 = .ok (.iconst 1, 1) := by decide +kernel
theorem dX11_sure_43 : decode cX11_sure 43 = .ok (.if_icmp .ne 6, 3) := by decide +kernel
theorem dX11_sure_46 : decode cX11_sure 46 = .ok (.iinc 4 1, 3) := by decide +kernel
theorem dX11_sure_49 : decode cX11_sure 49 = .ok (.iinc 5 1, 3) := by decide +kernel
theorem dX11_sure_52 : decode cX11_sure 52 = .ok (.goto (-28), 3) := by decide +kernel
theorem dX11_sure_55 : decode cX11_sure 55 = .ok (.iload 4, 2) := by decide +kernel
theorem dX11_sure_57 : decode cX11_sure 57 = .ok (.ireturn, 1) := by decide +kernel
set_option maxRecDepth 20000 in
theorem ggX11_join_X11_isPerson : GoodIn wsX11_join wsX11_isPerson := goodIn_r _ [7, 8, 67, 68, 69, 70, 71, 72, 73, 74, 75, 76, 77, 78, 79, 80, 81, 82] (by decide +kernel) (by decide +kernel)
set_option maxRecDepth 20000 in
theorem gX11_join_X11_isPerson : GoodIn wsX11_join (wsV RX11 78 RX11 yX11_isPerson wsX11_isPerson) := goodIn_app (goodIn_of _ (by decide +kernel)) ggX11_join_X11_isPerson
set_option maxRecDepth 20000 in
theorem ggX11_join_X11_tellAnew : GoodIn wsX11_join wsX11_tellAnew := goodIn_r _ [12, 13, 14, 15, 16, 17, 18, 2, 19, 20, 21, 22, 23, 24, 25, 26, 27, 28, 29, 30, 31, 32, 33, 34, 35, 36, 37, 38, 39, 40, 41, 42, 43, 44, 45, 46, 47, 48, 6, 49, 50, 51, 52, 53, 54, 55, 56, 57, 58, 59, 67, 68, 69, 70, 71, 72, 73, 74, 75, 76, 77, 78, 79, 80, 81, 82, 83, 84, 85, 86, 87, 88, 89, 90, 91, 92, 93, 94, 95, 96, 97, 98, 99, 100, 101, 102, 103, 104, 105, 106, 107, 108, 109, 110] (by decide +kernel) (by decide +kernel)
set_option maxRecDepth 20000 in
theorem gX11_join_X11_tellAnew : GoodIn wsX11_join (wsV RX11 126 RX11 yX11_tellAnew wsX11_tellAnew) := goodIn_app (goodIn_of _ (by decide +kernel)) ggX11_join_X11_tellAnew
set_option maxRecDepth 20000 in
theorem ggX11_join_J7_fill_53178 : GoodIn wsX11_join wsJ7_fill_53178 := goodIn_r _ [62] (by decide +kernel) (by decide +kernel)
set_option maxRecDepth 20000 in
theorem gX11_join_J7_fill_53178 : GoodIn wsX11_join (va_wsS RX11 40 yJ7_fill_53178 wsJ7_fill_53178) := goodIn_app (goodIn_of _ (by decide +kernel)) ggX11_join_J7_fill_53178
set_option maxRecDepth 20000 in
theorem ggX11_join_X11_handOverMarks : GoodIn wsX11_join wsX11_handOverMarks := goodIn_r _ [66, 15, 16, 18, 67, 68, 69, 70, 71, 72, 73, 74, 75, 76, 77, 78, 79, 80, 81, 82, 83, 84, 85, 86, 87, 88, 89, 90, 91, 92, 93, 94, 95, 96, 97, 98, 99, 100, 101, 102, 103, 104, 105, 106] (by decide +kernel) (by decide +kernel)
set_option maxRecDepth 20000 in
theorem gX11_join_X11_handOverMarks : GoodIn wsX11_join (wsV RX11 153 RX11 yX11_handOverMarks wsX11_handOverMarks) := goodIn_app (goodIn_of _ (by decide +kernel)) ggX11_join_X11_handOverMarks
theorem dX11_join_0 : decode cX11_join 0 = .ok (.aload_n 0, 1) := by decide +kernel
theorem dX11_join_1 : decode cX11_join 1 = .ok (.iload_n 1, 1) := by decide +kernel
theorem dX11_join_2 : decode cX11_join 2 = .ok (.invokevirtual 78, 3) := by decide +kernel
theorem dX11_join_5 : decode cX11_join 5 = .ok (.ifCond .eq 16, 3) := by decide +kernel
theorem dX11_join_8 : decode cX11_join 8 = .ok (.aload_n 0, 1) := by decide +kernel
theorem dX11_join_9 : decode cX11_join 9 = .ok (.iload_n 2, 1) := by decide +kernel
theorem dX11_join_10 : decode cX11_join 10 = .ok (.invokevirtual 78, 3) := by decide +kernel
theorem dX11_join_13 : decode cX11_join 13 = .ok (.ifCond .eq 8, 3) := by decide +kernel
theorem dX11_join_16 : decode cX11_join 16 = .ok (.iload_n 1, 1) := by decide +kernel
theorem dX11_join_17 : decode cX11_join 17 = .ok (.iload_n 2, 1) := by decide +kernel
theorem dX11_join_18 : decode cX11_join 18 = .ok (.if_icmp .ne 5, 3) := by decide +kernel
theorem dX11_join_21 : decode cX11_join 21 = .ok (.iconst (-1), 1) := by decide +kernel
theorem dX11_join_22 : decode cX11_join 22 = .ok (.ireturn, 1) := by decide +kernel
theorem dX11_join_23 : decode cX11_join 23 = .ok (.aload_n 0, 1) := by decide +kernel
theorem dX11_join_24 : decode cX11_join 24 = .ok (.getfield 16, 3) := by decide +kernel
theorem dX11_join_27 : decode cX11_join 27 = .ok (.iload_n 1, 1) := by decide +kernel
theorem dX11_join_28 : decode cX11_join 28 = .ok (.baload, 1) := by decide +kernel
theorem dX11_join_29 : decode cX11_join 29 = .ok (.ifCond .ne 12, 3) := by decide +kernel
theorem dX11_join_32 : decode cX11_join 32 = .ok (.aload_n 0, 1) := by decide +kernel
theorem dX11_join_33 : decode cX11_join 33 = .ok (.getfield 16, 3) := by decide +kernel
theorem dX11_join_36 : decode cX11_join 36 = .ok (.iload_n 2, 1) := by decide +kernel
theorem dX11_join_37 : decode cX11_join 37 = .ok (.baload, 1) := by decide +kernel
theorem dX11_join_38 : decode cX11_join 38 = .ok (.ifCond .eq 6, 3) := by decide +kernel
theorem dX11_join_41 : decode cX11_join 41 = .ok (.bipush (-3), 2) := by decide +kernel
theorem dX11_join_43 : decode cX11_join 43 = .ok (.ireturn, 1) := by decide +kernel
theorem dX11_join_44 : decode cX11_join 44 = .ok (.aload_n 0, 1) := by decide +kernel
theorem dX11_join_45 : decode cX11_join 45 = .ok (.iload_n 1, 1) := by decide +kernel
theorem dX11_join_46 : decode cX11_join 46 = .ok (.iload_n 2, 1) := by decide +kernel
theorem dX11_join_47 : decode cX11_join 47 = .ok (.iconst 0, 1) := by decide +kernel
theorem dX11_join_48 : decode cX11_join 48 = .ok (.sipush 399, 3) := by decide +kernel
theorem dX11_join_51 : decode cX11_join 51 = .ok (.invokevirtual 126, 3) := by decide +kernel
theorem dX11_join_54 : decode cX11_join 54 = .ok (.ifCond .ne 6, 3) := by decide +kernel
theorem dX11_join_57 : decode cX11_join 57 = .ok (.bipush (-4), 2) := by decide +kernel
theorem dX11_join_59 : decode cX11_join 59 = .ok (.ireturn, 1) := by decide +kernel
theorem dX11_join_60 : decode cX11_join 60 = .ok (.aload_n 0, 1) := by decide +kernel
theorem dX11_join_61 : decode cX11_join 61 = .ok (.getfield 16, 3) := by decide +kernel
theorem dX11_join_64 : decode cX11_join 64 = .ok (.iload_n 2, 1) := by decide +kernel
theorem dX11_join_65 : decode cX11_join 65 = .ok (.iconst 1, 1) := by decide +kernel
theorem dX11_join_66 : decode cX11_join 66 = .ok (.bastore, 1) := by decide +kernel
theorem dX11_join_67 : decode cX11_join 67 = .ok (.aload_n 0, 1) := by decide +kernel
theorem dX11_join_68 : decode cX11_join 68 = .ok (.getfield 22, 3) := by decide +kernel
theorem dX11_join_71 : decode cX11_join 71 = .ok (.iload_n 2, 1) := by decide +kernel
theorem dX11_join_72 : decode cX11_join 72 = .ok (.aaload, 1) := by decide +kernel
theorem dX11_join_73 : decode cX11_join 73 = .ok (.sipush 255, 3) := by decide +kernel
theorem dX11_join_76 : decode cX11_join 76 = .ok (.invokestatic 40, 3) := by decide +kernel
theorem dX11_join_79 : decode cX11_join 79 = .ok (.aload_n 0, 1) := by decide +kernel
theorem dX11_join_80 : decode cX11_join 80 = .ok (.iload_n 1, 1) := by decide +kernel
theorem dX11_join_81 : decode cX11_join 81 = .ok (.iload_n 2, 1) := by decide +kernel
theorem dX11_join_82 : decode cX11_join 82 = .ok (.invokevirtual 153, 3) := by decide +kernel
theorem dX11_join_85 : decode cX11_join 85 = .ok (.ireturn, 1) := by decide +kernel
theorem dX11_isLand_0 : decode cX11_isLand 0 = .ok (.iload_n 0, 1) := by decide +kernel
theorem dX11_isLand_1 : decode cX11_isLand 1 = .ok (.ifCond .lt 13, 3) := by decide +kernel
theorem dX11_isLand_4 : decode cX11_isLand 4 = .ok (.iload_n 0, 1) := by decide +kernel
theorem dX11_isLand_5 : decode cX11_isLand 5 = .ok (.bipush 8, 2) := by decide +kernel
theorem dX11_isLand_7 : decode cX11_isLand 7 = .ok (.if_icmp .ge 7, 3) := by decide +kernel
theorem dX11_isLand_10 : decode cX11_isLand 10 = .ok (.iconst 1, 1) := by decide +kernel
theorem dX11_isLand_11 : decode cX11_isLand 11 = .ok (.goto 4, 3) := by decide +kernel
theorem dX11_isLand_14 : decode cX11_isLand 14 = .ok (.iconst 0, 1) := by decide +kernel
theorem dX11_isLand_15 : decode cX11_isLand 15 = .ok (.ireturn, 1) := by decide +kernel
theorem dX11_isDay_0 : decode cX11_isDay 0 = .ok (.iload_n 0, 1) := by decide +kernel
theorem dX11_isDay_1 : decode cX11_isDay 1 = .ok (.ifCond .lt 14, 3) := by decide +kernel
theorem dX11_isDay_4 : decode cX11_isDay 4 = .ok (.iload_n 0, 1) := by decide +kernel
theorem dX11_isDay_5 : decode cX11_isDay 5 = .ok (.sipush 400, 3) := by decide +kernel
theorem dX11_isDay_8 : decode cX11_isDay 8 = .ok (.if_icmp .ge 7, 3) := by decide +kernel
theorem dX11_isDay_11 : decode cX11_isDay 11 = .ok (.iconst 1, 1) := by decide +kernel
theorem dX11_isDay_12 : decode cX11_isDay 12 = .ok (.goto 4, 3) := by decide +kernel
theorem dX11_isDay_15 : decode cX11_isDay 15 = .ok (.iconst 0, 1) := by decide +kernel
theorem dX11_isDay_16 : decode cX11_isDay 16 = .ok (.ireturn, 1) := by decide +kernel
set_option maxRecDepth 20000 in
theorem ggX11_areDays_X11_isDay : GoodIn wsX11_areDays wsX11_isDay := goodIn_r _ [4] (by decide +kernel) (by decide +kernel)
set_option maxRecDepth 20000 in
theorem gX11_areDays_X11_isDay : GoodIn wsX11_areDays (va_wsS RX11 95 yX11_isDay wsX11_isDay) := goodIn_app (goodIn_of _ (by decide +kernel)) ggX11_areDays_X11_isDay
theorem dX11_areDays_0 : decode cX11_areDays 0 = .ok (.iload_n 0, 1) := by decide +kernel
theorem dX11_areDays_1 : decode cX11_areDays 1 = .ok (.invokestatic 95, 3) := by decide +kernel
theorem dX11_areDays_4 : decode cX11_areDays 4 = .ok (.ifCond .eq 19, 3) := by decide +kernel
theorem dX11_areDays_7 : decode cX11_areDays 7 = .ok (.iload_n 1, 1) := by decide +kernel
theorem dX11_areDays_8 : decode cX11_areDays 8 = .ok (.invokestatic 95, 3) := by decide +kernel
theorem dX11_areDays_11 : decode cX11_areDays 11 = .ok (.ifCond .eq 12, 3) := by decide +kernel
theorem dX11_areDays_14 : decode cX11_areDays 14 = .ok (.iload_n 0, 1) := by decide +kernel
theorem dX11_areDays_15 : decode cX11_areDays 15 = .ok (.iload_n 1, 1) := by decide +kernel
theorem dX11_areDays_16 : decode cX11_areDays 16 = .ok (.if_icmp .gt 7, 3) := by decide +kernel
theorem dX11_areDays_19 : decode cX11_areDays 19 = .ok (.iconst 1, 1) := by decide +kernel
theorem dX11_areDays_20 : decode cX11_areDays 20 = .ok (.goto 4, 3) := by decide +kernel
theorem dX11_areDays_23 : decode cX11_areDays 23 = .ok (.iconst 0, 1) := by decide +kernel
theorem dX11_areDays_24 : decode cX11_areDays 24 = .ok (.ireturn, 1) := by decide +kernel
theorem dX11_isYear_0 : decode cX11_isYear 0 = .ok (.iload_n 0, 1) := by decide +kernel
theorem dX11_isYear_1 : decode cX11_isYear 1 = .ok (.ifCond .lt 12, 3) := by decide +kernel
theorem dX11_isYear_4 : decode cX11_isYear 4 = .ok (.iload_n 0, 1) := by decide +kernel
theorem dX11_isYear_5 : decode cX11_isYear 5 = .ok (.iconst 4, 1) := by decide +kernel
theorem dX11_isYear_6 : decode cX11_isYear 6 = .ok (.if_icmp .ge 7, 3) := by decide +kernel
theorem dX11_isYear_9 : decode cX11_isYear 9 = .ok (.iconst 1, 1) := by decide +kernel
theorem dX11_isYear_10 : decode cX11_isYear 10 = .ok (.goto 4, 3) := by decide +kernel
theorem dX11_isYear_13 : decode cX11_isYear 13 = .ok (.iconst 0, 1) := by decide +kernel
theorem dX11_isYear_14 : decode cX11_isYear 14 = .ok (.ireturn, 1) := by decide +kernel
theorem dX11_isShelf_0 : decode cX11_isShelf 0 = .ok (.iload_n 0, 1) := by decide +kernel
theorem dX11_isShelf_1 : decode cX11_isShelf 1 = .ok (.ifCond .lt 13, 3) := by decide +kernel
theorem dX11_isShelf_4 : decode cX11_isShelf 4 = .ok (.iload_n 0, 1) := by decide +kernel
theorem dX11_isShelf_5 : decode cX11_isShelf 5 = .ok (.bipush 8, 2) := by decide +kernel
theorem dX11_isShelf_7 : decode cX11_isShelf 7 = .ok (.if_icmp .ge 7, 3) := by decide +kernel
theorem dX11_isShelf_10 : decode cX11_isShelf 10 = .ok (.iconst 1, 1) := by decide +kernel
theorem dX11_isShelf_11 : decode cX11_isShelf 11 = .ok (.goto 4, 3) := by decide +kernel
theorem dX11_isShelf_14 : decode cX11_isShelf 14 = .ok (.iconst 0, 1) := by decide +kernel
theorem dX11_isShelf_15 : decode cX11_isShelf 15 = .ok (.ireturn, 1) := by decide +kernel
theorem dX11_isPerson_0 : decode cX11_isPerson 0 = .ok (.iload_n 1, 1) := by decide +kernel
theorem dX11_isPerson_1 : decode cX11_isPerson 1 = .ok (.ifCond .lt 15, 3) := by decide +kernel
theorem dX11_isPerson_4 : decode cX11_isPerson 4 = .ok (.iload_n 1, 1) := by decide +kernel
theorem dX11_isPerson_5 : decode cX11_isPerson 5 = .ok (.aload_n 0, 1) := by decide +kernel
theorem dX11_isPerson_6 : decode cX11_isPerson 6 = .ok (.getfield 74, 3) := by decide +kernel
theorem dX11_isPerson_9 : decode cX11_isPerson 9 = .ok (.if_icmp .ge 7, 3) := by decide +kernel
theorem dX11_isPerson_12 : decode cX11_isPerson 12 = .ok (.iconst 1, 1) := by decide +kernel
theorem dX11_isPerson_13 : decode cX11_isPerson 13 = .ok (.goto 4, 3) := by decide +kernel
theorem dX11_isPerson_16 : decode cX11_isPerson 16 = .ok (.iconst 0, 1) := by decide +kernel
theorem dX11_isPerson_17 : decode cX11_isPerson 17 = .ok (.ireturn, 1) := by decide +kernel
theorem dX11_markAt_0 : decode cX11_markAt 0 = .ok (.iload_n 1, 1) := by decide +kernel
theorem dX11_markAt_1 : decode cX11_markAt 1 = .ok (.ifCond .lt 20, 3) := by decide +kernel
theorem dX11_markAt_4 : decode cX11_markAt 4 = .ok (.iload_n 1, 1) := by decide +kernel
theorem dX11_markAt_5 : decode cX11_markAt 5 = .ok (.aload_n 0, 1) := by decide +kernel
theorem dX11_markAt_6 : decode cX11_markAt 6 = .ok (.getfield 85, 3) := by decide +kernel
theorem dX11_markAt_9 : decode cX11_markAt 9 = .ok (.if_icmp .ge 12, 3) := by decide +kernel
theorem dX11_markAt_12 : decode cX11_markAt 12 = .ok (.aload_n 0, 1) := by decide +kernel
theorem dX11_markAt_13 : decode cX11_markAt 13 = .ok (.getfield 27, 3) := by decide +kernel
theorem dX11_markAt_16 : decode cX11_markAt 16 = .ok (.iload_n 1, 1) := by decide +kernel
theorem dX11_markAt_17 : decode cX11_markAt 17 = .ok (.aaload, 1) := by decide +kernel
theorem dX11_markAt_18 : decode cX11_markAt 18 = .ok (.goto 4, 3) := by decide +kernel
theorem dX11_markAt_21 : decode cX11_markAt 21 = .ok (.aconst_null, 1) := by decide +kernel
theorem dX11_markAt_22 : decode cX11_markAt 22 = .ok (.areturn, 1) := by decide +kernel
theorem dX11_lawAt_0 : decode cX11_lawAt 0 = .ok (.iload_n 1, 1) := by decide +kernel
theorem dX11_lawAt_1 : decode cX11_lawAt 1 = .ok (.ifCond .lt 20, 3) := by decide +kernel
theorem dX11_lawAt_4 : decode cX11_lawAt 4 = .ok (.iload_n 1, 1) := by decide +kernel
theorem dX11_lawAt_5 : decode cX11_lawAt 5 = .ok (.aload_n 0, 1) := by decide +kernel
theorem dX11_lawAt_6 : decode cX11_lawAt 6 = .ok (.getfield 157, 3) := by decide +kernel
theorem dX11_lawAt_9 : decode cX11_lawAt 9 = .ok (.if_icmp .ge 12, 3) := by decide +kernel
theorem dX11_lawAt_12 : decode cX11_lawAt 12 = .ok (.aload_n 0, 1) := by decide +kernel
theorem dX11_lawAt_13 : decode cX11_lawAt 13 = .ok (.getfield 33, 3) := by decide +kernel
theorem dX11_lawAt_16 : decode cX11_lawAt 16 = .ok (.iload_n 1, 1) := by decide +kernel
theorem dX11_lawAt_17 : decode cX11_lawAt 17 = .ok (.aaload, 1) := by decide +kernel
theorem dX11_lawAt_18 : decode cX11_lawAt 18 = .ok (.goto 4, 3) := by decide +kernel
theorem dX11_lawAt_21 : decode cX11_lawAt 21 = .ok (.aconst_null, 1) := by decide +kernel
theorem dX11_lawAt_22 : decode cX11_lawAt 22 = .ok (.areturn, 1) := by decide +kernel
set_option maxRecDepth 20000 in
theorem ggX11_enter_X11_tellAnew : GoodIn wsX11_enter wsX11_tellAnew := goodIn_r _ [11, 12, 13, 1, 4, 14, 3, 15, 16, 17, 18, 19, 20, 21, 22, 23, 24, 25, 26, 27, 28, 29, 30, 31, 32, 33, 34, 35, 36, 37, 38, 39, 40, 41, 42, 43, 44, 45, 10, 46, 6, 47, 48, 49, 50, 5, 51, 52, 53, 54, 55, 56, 57, 58, 59, 60, 61, 62, 63, 64, 65, 66, 67, 68, 69, 70, 71, 72, 73, 74, 75, 76, 77, 78, 79, 80, 81, 82, 83, 84, 85, 86, 87, 88, 89, 90, 91, 92, 93, 94, 95, 96, 97, 98] (by decide +kernel) (by decide +kernel)
set_option maxRecDepth 20000 in
theorem gX11_enter_X11_tellAnew : GoodIn wsX11_enter (wsV RX11 126 RX11 yX11_tellAnew wsX11_tellAnew) := goodIn_app (goodIn_of _ (by decide +kernel)) ggX11_enter_X11_tellAnew
theorem dX11_enter_0 : decode cX11_enter 0 = .ok (.aload_n 0, 1) := by decide +kernel
theorem dX11_enter_1 : decode cX11_enter 1 = .ok (.getfield 85, 3) := by decide +kernel
theorem dX11_enter_4 : decode cX11_enter 4 = .ok (.istore_n 2, 1) := by decide +kernel
theorem dX11_enter_5 : decode cX11_enter 5 = .ok (.iload_n 2, 1) := by decide +kernel
theorem dX11_enter_6 : decode cX11_enter 6 = .ok (.bipush 80, 2) := by decide +kernel
theorem dX11_enter_8 : decode cX11_enter 8 = .ok (.if_icmp .lt 6, 3) := by decide +kernel
theorem dX11_enter_11 : decode cX11_enter 11 = .ok (.bipush (-2), 2) := by decide +kernel
theorem dX11_enter_13 : decode cX11_enter 13 = .ok (.ireturn, 1) := by decide +kernel
theorem dX11_enter_14 : decode cX11_enter 14 = .ok (.aload_n 0, 1) := by decide +kernel
theorem dX11_enter_15 : decode cX11_enter 15 = .ok (.getfield 16, 3) := by decide +kernel
theorem dX11_enter_18 : decode cX11_enter 18 = .ok (.aload_n 1, 1) := by decide +kernel
theorem dX11_enter_19 : decode cX11_enter 19 = .ok (.getfield 117, 3) := by decide +kernel
theorem dX11_enter_22 : decode cX11_enter 22 = .ok (.baload, 1) := by decide +kernel
theorem dX11_enter_23 : decode cX11_enter 23 = .ok (.ifCond .eq 6, 3) := by decide +kernel
theorem dX11_enter_26 : decode cX11_enter 26 = .ok (.bipush (-3), 2) := by decide +kernel
theorem dX11_enter_28 : decode cX11_enter 28 = .ok (.ireturn, 1) := by decide +kernel
theorem dX11_enter_29 : decode cX11_enter 29 = .ok (.aload_n 0, 1) := by decide +kernel
theorem dX11_enter_30 : decode cX11_enter 30 = .ok (.getfield 27, 3) := by decide +kernel
theorem dX11_enter_33 : decode cX11_enter 33 = .ok (.iload_n 2, 1) := by decide +kernel
theorem dX11_enter_34 : decode cX11_enter 34 = .ok (.aload_n 1, 1) := by decide +kernel
theorem dX11_enter_35 : decode cX11_enter 35 = .ok (.aastore, 1) := by decide +kernel
theorem dX11_enter_36 : decode cX11_enter 36 = .ok (.aload_n 0, 1) := by decide +kernel
theorem dX11_enter_37 : decode cX11_enter 37 = .ok (.dup, 1) := by decide +kernel
theorem dX11_enter_38 : decode cX11_enter 38 = .ok (.getfield 85, 3) := by decide +kernel
theorem dX11_enter_41 : decode cX11_enter 41 = .ok (.iconst 1, 1) := by decide +kernel
theorem dX11_enter_42 : decode cX11_enter 42 = .ok (.iadd, 1) := by decide +kernel
theorem dX11_enter_43 : decode cX11_enter 43 = .ok (.putfield 85, 3) := by decide +kernel
theorem dX11_enter_46 : decode cX11_enter 46 = .ok (.aload_n 0, 1) := by decide +kernel
theorem dX11_enter_47 : decode cX11_enter 47 = .ok (.aload_n 1, 1) := by decide +kernel
theorem dX11_enter_48 : decode cX11_enter 48 = .ok (.getfield 117, 3) := by decide +kernel
theorem dX11_enter_51 : decode cX11_enter 51 = .ok (.aload_n 1, 1) := by decide +kernel
theorem dX11_enter_52 : decode cX11_enter 52 = .ok (.getfield 117, 3) := by decide +kernel
theorem dX11_enter_55 : decode cX11_enter 55 = .ok (.aload_n 1, 1) := by decide +kernel
theorem dX11_enter_56 : decode cX11_enter 56 = .ok (.getfield 120, 3) := by decide +kernel
theorem dX11_enter_59 : decode cX11_enter 59 = .ok (.aload_n 1, 1) := by decide +kernel
theorem dX11_enter_60 : decode cX11_enter 60 = .ok (.getfield 123, 3) := by decide +kernel
theorem dX11_enter_63 : decode cX11_enter 63 = .ok (.invokevirtual 126, 3) := by decide +kernel
theorem dX11_enter_66 : decode cX11_enter 66 = .ok (.ifCond .eq 5, 3) := by decide +kernel
theorem dX11_enter_69 : decode cX11_enter 69 = .ok (.iload_n 2, 1) := by decide +kernel
theorem dX11_enter_70 : decode cX11_enter 70 = .ok (.ireturn, 1) := by decide +kernel
theorem dX11_enter_71 : decode cX11_enter 71 = .ok (.aload_n 0, 1) := by decide +kernel
theorem dX11_enter_72 : decode cX11_enter 72 = .ok (.dup, 1) := by decide +kernel
theorem dX11_enter_73 : decode cX11_enter 73 = .ok (.getfield 85, 3) := by decide +kernel
theorem dX11_enter_76 : decode cX11_enter 76 = .ok (.iconst 1, 1) := by decide +kernel
theorem dX11_enter_77 : decode cX11_enter 77 = .ok (.isub, 1) := by decide +kernel
theorem dX11_enter_78 : decode cX11_enter 78 = .ok (.putfield 85, 3) := by decide +kernel
theorem dX11_enter_81 : decode cX11_enter 81 = .ok (.aload_n 0, 1) := by decide +kernel
theorem dX11_enter_82 : decode cX11_enter 82 = .ok (.getfield 27, 3) := by decide +kernel
theorem dX11_enter_85 : decode cX11_enter 85 = .ok (.iload_n 2, 1) := by decide +kernel
theorem dX11_enter_86 : decode cX11_enter 86 = .ok (.aconst_null, 1) := by decide +kernel
theorem dX11_enter_87 : decode cX11_enter 87 = .ok (.aastore, 1) := by decide +kernel
theorem dX11_enter_88 : decode cX11_enter 88 = .ok (.bipush (-4), 2) := by decide +kernel
theorem dX11_enter_90 : decode cX11_enter 90 = .ok (.ireturn, 1) := by decide +kernel
set_option maxRecDepth 20000 in
theorem ggX11_tellAnew_J7_fill_fda19 : GoodIn wsX11_tellAnew wsJ7_fill_fda19 := goodIn_r _ [15, 16, 17, 14, 18, 19, 20, 21, 90, 91, 92, 93] (by decide +kernel) (by decide +kernel)
set_option maxRecDepth 20000 in
theorem gX11_tellAnew_J7_fill_fda19 : GoodIn wsX11_tellAnew (va_wsS RX11 160 yJ7_fill_fda19 wsJ7_fill_fda19) := goodIn_app (goodIn_of _ (by decide +kernel)) ggX11_tellAnew_J7_fill_fda19
set_option maxRecDepth 20000 in
theorem ggX11_tellAnew_X5_givesWay : GoodIn wsX11_tellAnew wsX5_givesWay := goodIn_r _ [27] (by decide +kernel) (by decide +kernel)
set_option maxRecDepth 20000 in
theorem gX11_tellAnew_X5_givesWay_u163X1 : GoodIn wsX11_tellAnew (va_wsU RX11 163 RX1 "NightBook$Span" ⟨"NightBook$Span", "givesWay", "()Z"⟩ yX5_givesWay wsX5_givesWay) := goodIn_app (goodIn_of _ (by decide +kernel)) ggX11_tellAnew_X5_givesWay
set_option maxRecDepth 20000 in
theorem gX11_tellAnew_X5_givesWay : GoodIn wsX11_tellAnew (wsV RX11 163 RX5 yX5_givesWay wsX5_givesWay) := goodIn_app (goodIn_of _ (by decide +kernel)) ggX11_tellAnew_X5_givesWay
set_option maxRecDepth 20000 in
theorem gX11_tellAnew_X5_givesWay_u163X6 : GoodIn wsX11_tellAnew (va_wsU RX11 163 RX6 "NightBook$Span" ⟨"NightBook$Span", "givesWay", "()Z"⟩ yX5_givesWay wsX5_givesWay) := goodIn_app (goodIn_of _ (by decide +kernel)) ggX11_tellAnew_X5_givesWay
set_option maxRecDepth 20000 in
theorem ggX11_tellAnew_X10_givesWay : GoodIn wsX11_tellAnew wsX10_givesWay := goodIn_r _ [35] (by decide +kernel) (by decide +kernel)
set_option maxRecDepth 20000 in
theorem gX11_tellAnew_X10_givesWay_u163X10 : GoodIn wsX11_tellAnew (va_wsO RX11 163 RX10 "NightBook$Span" ⟨"NightBook$Span", "givesWay", "()Z"⟩ yX10_givesWay wsX10_givesWay) := goodIn_app (goodIn_of _ (by decide +kernel)) ggX11_tellAnew_X10_givesWay
set_option maxRecDepth 20000 in
theorem ggX11_tellAnew_X11_narrow : GoodIn wsX11_tellAnew wsX11_narrow := goodIn_r _ [39, 40, 41, 42, 43, 44, 45, 46, 47, 48, 49, 66, 67, 68, 69, 70, 71, 72, 73, 74, 75, 76, 77, 78, 79, 80, 81, 82, 83, 84, 85, 86, 87, 88, 89] (by decide +kernel) (by decide +kernel)
set_option maxRecDepth 20000 in
theorem gX11_tellAnew_X11_narrow : GoodIn wsX11_tellAnew (va_wsS RX11 167 yX11_narrow wsX11_narrow) := goodIn_app (goodIn_of _ (by decide +kernel)) ggX11_tellAnew_X11_narrow
theorem dX11_tellAnew_0 : decode cX11_tellAnew 0 = .ok (.aload_n 0, 1) := by decide +kernel
theorem dX11_tellAnew_1 : decode cX11_tellAnew 1 = .ok (.getfield 64, 3) := by decide +kernel
theorem dX11_tellAnew_4 : decode cX11_tellAnew 4 = .ok (.iload_n 3, 1) := by decide +kernel
theorem dX11_tellAnew_5 : decode cX11_tellAnew 5 = .ok (.iload 4, 2) := by decide +kernel
theorem dX11_tellAnew_7 : decode cX11_tellAnew 7 = .ok (.iconst 1, 1) := by decide +kernel
theorem dX11_tellAnew_8 : decode cX11_tellAnew 8 = .ok (.iadd, 1) := by decide +kernel
theorem dX11_tellAnew_9 : decode cX11_tellAnew 9 = .ok (.sipush 511, 3) := by decide +kernel
theorem dX11_tellAnew_12 : decode cX11_tellAnew 12 = .ok (.invokestatic 160, 3) := by decide +kernel
theorem dX11_tellAnew_15 : decode cX11_tellAnew 15 = .ok (.aload_n 0, 1) := by decide +kernel
theorem dX11_tellAnew_16 : decode cX11_tellAnew 16 = .ok (.getfield 67, 3) := by decide +kernel
theorem dX11_tellAnew_19 : decode cX11_tellAnew 19 = .ok (.iload_n 3, 1) := by decide +kernel
theorem dX11_tellAnew_20 : decode cX11_tellAnew 20 = .ok (.iload 4, 2) := by decide +kernel
theorem dX11_tellAnew_22 : decode cX11_tellAnew 22 = .ok (.iconst 1, 1) := by decide +kernel
theorem dX11_tellAnew_23 : decode cX11_tellAnew 23 = .ok (.iadd, 1) := by decide +kernel
theorem dX11_tellAnew_24 : decode cX11_tellAnew 24 = .ok (.sipush 255, 3) := by decide +kernel
theorem dX11_tellAnew_27 : decode cX11_tellAnew 27 = .ok (.invokestatic 160, 3) := by decide +kernel
theorem dX11_tellAnew_30 : decode cX11_tellAnew 30 = .ok (.iconst 0, 1) := by decide +kernel
theorem dX11_tellAnew_31 : decode cX11_tellAnew 31 = .ok (.istore 5, 2) := by decide +kernel
theorem dX11_tellAnew_33 : decode cX11_tellAnew 33 = .ok (.iload 5, 2) := by decide +kernel
theorem dX11_tellAnew_35 : decode cX11_tellAnew 35 = .ok (.aload_n 0, 1) := by decide +kernel
theorem dX11_tellAnew_36 : decode cX11_tellAnew 36 = .ok (.getfield 85, 3) := by decide +kernel
theorem dX11_tellAnew_39 : decode cX11_tellAnew 39 = .ok (.if_icmp .ge 76, 3) := by decide +kernel
theorem dX11_tellAnew_42 : decode cX11_tellAnew 42 = .ok (.aload_n 0, 1) := by decide +kernel
theorem dX11_tellAnew_43 : decode cX11_tellAnew 43 = .ok (.getfield 27, 3) := by decide +kernel
theorem dX11_tellAnew_46 : decode cX11_tellAnew 46 = .ok (.iload 5, 2) := by decide +kernel
theorem dX11_tellAnew_48 : decode cX11_tellAnew 48 = .ok (.aaload, 1) := by decide +kernel
theorem dX11_tellAnew_49 : decode cX11_tellAnew 49 = .ok (.astore 6, 2) := by decide +kernel
theorem dX11_tellAnew_51 : decode cX11_tellAnew 51 = .ok (.aload 6, 2) := by decide +kernel
theorem dX11_tellAnew_53 : decode cX11_tellAnew 53 = .ok (.ifnull 56, 3) := by decide +kernel
theorem dX11_tellAnew_56 : decode cX11_tellAnew 56 = .ok (.aload 6, 2) := by decide +kernel
theorem dX11_tellAnew_58 : decode cX11_tellAnew 58 = .ok (.getfield 113, 3) := by decide +kernel
theorem dX11_tellAnew_61 : decode cX11_tellAnew 61 = .ok (.ifCond .ne 48, 3) := by decide +kernel
theorem dX11_tellAnew_64 : decode cX11_tellAnew 64 = .ok (.aload 6, 2) := by decide +kernel
theorem dX11_tellAnew_66 : decode cX11_tellAnew 66 = .ok (.getfield 117, 3) := by decide +kernel
theorem dX11_tellAnew_69 : decode cX11_tellAnew 69 = .ok (.iload_n 1, 1) := by decide +kernel
theorem dX11_tellAnew_70 : decode cX11_tellAnew 70 = .ok (.if_icmp .eq 12, 3) := by decide +kernel
theorem dX11_tellAnew_73 : decode cX11_tellAnew 73 = .ok (.aload 6, 2) := by decide +kernel
theorem dX11_tellAnew_75 : decode cX11_tellAnew 75 = .ok (.getfield 117, 3) := by decide +kernel
theorem dX11_tellAnew_78 : decode cX11_tellAnew 78 = .ok (.iload_n 2, 1) := by decide +kernel
theorem dX11_tellAnew_79 : decode cX11_tellAnew 79 = .ok (.if_icmp .ne 30, 3) := by decide +kernel
theorem dX11_tellAnew_82 : decode cX11_tellAnew 82 = .ok (.aload 6, 2) := by decide +kernel
theorem dX11_tellAnew_84 : decode cX11_tellAnew 84 = .ok (.invokevirtual 163, 3) := by decide +kernel
theorem dX11_tellAnew_87 : decode cX11_tellAnew 87 = .ok (.ifCond .eq 10, 3) := by decide +kernel
theorem dX11_tellAnew_90 : decode cX11_tellAnew 90 = .ok (.aload_n 0, 1) := by decide +kernel
theorem dX11_tellAnew_91 : decode cX11_tellAnew 91 = .ok (.getfield 67, 3) := by decide +kernel
theorem dX11_tellAnew_94 : decode cX11_tellAnew 94 = .ok (.goto 7, 3) := by decide +kernel
theorem dX11_tellAnew_97 : decode cX11_tellAnew 97 = .ok (.aload_n 0, 1) := by decide +kernel
theorem dX11_tellAnew_98 : decode cX11_tellAnew 98 = .ok (.getfield 64, 3) := by decide +kernel
theorem dX11_tellAnew_101 : decode cX11_tellAnew 101 = .ok (.aload 6, 2) := by decide +kernel
theorem dX11_tellAnew_103 : decode cX11_tellAnew 103 = .ok (.iload_n 3, 1) := by decide +kernel
theorem dX11_tellAnew_104 : decode cX11_tellAnew 104 = .ok (.iload 4, 2) := by decide +kernel
theorem dX11_tellAnew_106 : decode cX11_tellAnew 106 = .ok (.invokestatic 167, 3) := by decide +kernel
theorem dX11_tellAnew_109 : decode cX11_tellAnew 109 = .ok (.iinc 5 1, 3) := by decide +kernel
theorem dX11_tellAnew_112 : decode cX11_tellAnew 112 = .ok (.goto (-79), 3) := by decide +kernel
theorem dX11_tellAnew_115 : decode cX11_tellAnew 115 = .ok (.iload_n 3, 1) := by decide +kernel
theorem dX11_tellAnew_116 : decode cX11_tellAnew 116 = .ok (.istore 5, 2) := by decide +kernel
theorem dX11_tellAnew_118 : decode cX11_tellAnew 118 = .ok (.iload 5, 2) := by decide +kernel
theorem dX11_tellAnew_120 : decode cX11_tellAnew 120 = .ok (.iload 4, 2) := by decide +kernel
theorem dX11_tellAnew_122 : decode cX11_tellAnew 122 = .ok (.if_icmp .gt 49, 3) := by decide +kernel
theorem dX11_tellAnew_125 : decode cX11_tellAnew 125 = .ok (.aload_n 0, 1) := by decide +kernel
theorem dX11_tellAnew_126 : decode cX11_tellAnew 126 = .ok (.getfield 64, 3) := by decide +kernel
theorem dX11_tellAnew_129 : decode cX11_tellAnew 129 = .ok (.iload 5, 2) := by decide +kernel
theorem dX11_tellAnew_131 : decode cX11_tellAnew 131 = .ok (.iaload, 1) := by decide +kernel
theorem dX11_tellAnew_132 : decode cX11_tellAnew 132 = .ok (.sipush 256, 3) := by decide +kernel
theorem dX11_tellAnew_135 : decode cX11_tellAnew 135 = .ok (.iand, 1) := by decide +kernel
theorem dX11_tellAnew_136 : decode cX11_tellAnew 136 = .ok (.ifCond .eq 17, 3) := by decide +kernel
theorem dX11_tellAnew_139 : decode cX11_tellAnew 139 = .ok (.aload_n 0, 1) := by decide +kernel
theorem dX11_tellAnew_140 : decode cX11_tellAnew 140 = .ok (.getfield 64, 3) := by decide +kernel
theorem dX11_tellAnew_143 : decode cX11_tellAnew 143 = .ok (.iload 5, 2) := by decide +kernel
theorem dX11_tellAnew_145 : decode cX11_tellAnew 145 = .ok (.aload_n 0, 1) := by decide +kernel
theorem dX11_tellAnew_146 : decode cX11_tellAnew 146 = .ok (.getfield 67, 3) := by decide +kernel
theorem dX11_tellAnew_149 : decode cX11_tellAnew 149 = .ok (.iload 5, 2) := by decide +kernel
theorem dX11_tellAnew_151 : decode cX11_tellAnew 151 = .ok (.iaload, 1) := by decide +kernel
theorem dX11_tellAnew_152 : decode cX11_tellAnew 152 = .ok (.iastore, 1) := by decide +kernel
theorem dX11_tellAnew_153 : decode cX11_tellAnew 153 = .ok (.aload_n 0, 1) := by decide +kernel
theorem dX11_tellAnew_154 : decode cX11_tellAnew 154 = .ok (.getfield 64, 3) := by decide +kernel
theorem dX11_tellAnew_157 : decode cX11_tellAnew 157 = .ok (.iload 5, 2) := by decide +kernel
theorem dX11_tellAnew_159 : decode cX11_tellAnew 159 = .ok (.iaload, 1) := by decide +kernel
theorem dX11_tellAnew_160 : decode cX11_tellAnew 160 = .ok (.ifCond .ne 5, 3) := by decide +kernel
theorem dX11_tellAnew_163 : decode cX11_tellAnew 163 = .ok (.iconst 0, 1) := by decide +kernel
theorem dX11_tellAnew_164 : decode cX11_tellAnew 164 = .ok (.ireturn, 1) := by decide +kernel
theorem dX11_tellAnew_165 : decode cX11_tellAnew 165 = .ok (.iinc 5 1, 3) := by decide +kernel
theorem dX11_tellAnew_168 : decode cX11_tellAnew 168 = .ok (.goto (-50), 3) := by decide +kernel
theorem dX11_tellAnew_171 : decode cX11_tellAnew 171 = .ok (.aload_n 0, 1) := by decide +kernel
theorem dX11_tellAnew_172 : decode cX11_tellAnew 172 = .ok (.getfield 64, 3) := by decide +kernel
theorem dX11_tellAnew_175 : decode cX11_tellAnew 175 = .ok (.iload_n 3, 1) := by decide +kernel
theorem dX11_tellAnew_176 : decode cX11_tellAnew 176 = .ok (.aload_n 0, 1) := by decide +kernel
theorem dX11_tellAnew_177 : decode cX11_tellAnew 177 = .ok (.getfield 22, 3) := by decide +kernel
theorem dX11_tellAnew_180 : decode cX11_tellAnew 180 = .ok (.iload_n 1, 1) := by decide +kernel
theorem dX11_tellAnew_181 : decode cX11_tellAnew 181 = .ok (.aaload, 1) := by decide +kernel
theorem dX11_tellAnew_182 : decode cX11_tellAnew 182 = .ok (.iload_n 3, 1) := by decide +kernel
theorem dX11_tellAnew_183 : decode cX11_tellAnew 183 = .ok (.iload 4, 2) := by decide +kernel
theorem dX11_tellAnew_185 : decode cX11_tellAnew 185 = .ok (.iload_n 3, 1) := by decide +kernel
theorem dX11_tellAnew_186 : decode cX11_tellAnew 186 = .ok (.isub, 1) := by decide +kernel
theorem dX11_tellAnew_187 : decode cX11_tellAnew 187 = .ok (.iconst 1, 1) := by decide +kernel
theorem dX11_tellAnew_188 : decode cX11_tellAnew 188 = .ok (.iadd, 1) := by decide +kernel
theorem dX11_tellAnew_189 : decode cX11_tellAnew 189 = .ok (.invokestatic 171, 3) := by decide +kernel
theorem dX11_tellAnew_192 : decode cX11_tellAnew 192 = .ok (.iconst 1, 1) := by decide +kernel
theorem dX11_tellAnew_193 : decode cX11_tellAnew 193 = .ok (.ireturn, 1) := by decide +kernel
theorem dX11_narrow_0 : decode cX11_narrow 0 = .ok (.iload_n 3, 1) := by decide +kernel
theorem dX11_narrow_1 : decode cX11_narrow 1 = .ok (.aload_n 1, 1) := by decide +kernel
theorem dX11_narrow_2 : decode cX11_narrow 2 = .ok (.getfield 123, 3) := by decide +kernel
theorem dX11_narrow_5 : decode cX11_narrow 5 = .ok (.invokestatic 177, 3) := by decide +kernel
theorem dX11_narrow_8 : decode cX11_narrow 8 = .ok (.istore 4, 2) := by decide +kernel
theorem dX11_narrow_10 : decode cX11_narrow 10 = .ok (.iload_n 2, 1) := by decide +kernel
theorem dX11_narrow_11 : decode cX11_narrow 11 = .ok (.aload_n 1, 1) := by decide +kernel
theorem dX11_narrow_12 : decode cX11_narrow 12 = .ok (.getfield 120, 3) := by decide +kernel
theorem dX11_narrow_15 : decode cX11_narrow 15 = .ok (.invokestatic 182, 3) := by decide +kernel
theorem dX11_narrow_18 : decode cX11_narrow 18 = .ok (.istore 5, 2) := by decide +kernel
theorem dX11_narrow_20 : decode cX11_narrow 20 = .ok (.iload 5, 2) := by decide +kernel
theorem dX11_narrow_22 : decode cX11_narrow 22 = .ok (.iload 4, 2) := by decide +kernel
theorem dX11_narrow_24 : decode cX11_narrow 24 = .ok (.if_icmp .gt 20, 3) := by decide +kernel
theorem dX11_narrow_27 : decode cX11_narrow 27 = .ok (.aload_n 0, 1) := by decide +kernel
theorem dX11_narrow_28 : decode cX11_narrow 28 = .ok (.iload 5, 2) := by decide +kernel
theorem dX11_narrow_30 : decode cX11_narrow 30 = .ok (.dup2, 1) := by decide +kernel
theorem dX11_narrow_31 : decode cX11_narrow 31 = .ok (.iaload, 1) := by decide +kernel
theorem dX11_narrow_32 : decode cX11_narrow 32 = .ok (.aload_n 1, 1) := by decide +kernel
theorem dX11_narrow_33 : decode cX11_narrow 33 = .ok (.getfield 134, 3) := by decide +kernel
theorem dX11_narrow_36 : decode cX11_narrow 36 = .ok (.iand, 1) := by decide +kernel
theorem dX11_narrow_37 : decode cX11_narrow 37 = .ok (.iastore, 1) := by decide +kernel
theorem dX11_narrow_38 : decode cX11_narrow 38 = .ok (.iinc 5 1, 3) := by decide +kernel
theorem dX11_narrow_41 : decode cX11_narrow 41 = .ok (.goto (-21), 3) := by decide +kernel
theorem dX11_narrow_44 : decode cX11_narrow 44 = .ok (.return_, 1) := by decide +kernel
theorem dX11_handOverMarks_0 : decode cX11_handOverMarks 0 = .ok (.iconst 0, 1) := by decide +kernel
theorem dX11_handOverMarks_1 : decode cX11_handOverMarks 1 = .ok (.istore_n 3, 1) := by decide +kernel
theorem dX11_handOverMarks_2 : decode cX11_handOverMarks 2 = .ok (.iconst 0, 1) := by decide +kernel
theorem dX11_handOverMarks_3 : decode cX11_handOverMarks 3 = .ok (.istore 4, 2) := by decide +kernel
theorem dX11_handOverMarks_5 : decode cX11_handOverMarks 5 = .ok (.iload 4, 2) := by decide +kernel
theorem dX11_handOverMarks_7 : decode cX11_handOverMarks 7 = .ok (.aload_n 0, 1) := by decide +kernel
theorem dX11_handOverMarks_8 : decode cX11_handOverMarks 8 = .ok (.getfield 85, 3) := by decide +kernel
theorem dX11_handOverMarks_11 : decode cX11_handOverMarks 11 = .ok (.if_icmp .ge 41, 3) := by decide +kernel
theorem dX11_handOverMarks_14 : decode cX11_handOverMarks 14 = .ok (.aload_n 0, 1) := by decide +kernel
theorem dX11_handOverMarks_15 : decode cX11_handOverMarks 15 = .ok (.getfield 27, 3) := by decide +kernel
theorem dX11_handOverMarks_18 : decode cX11_handOverMarks 18 = .ok (.iload 4, 2) := by decide +kernel
theorem dX11_handOverMarks_20 : decode cX11_handOverMarks 20 = .ok (.aaload, 1) := by decide +kernel
theorem dX11_handOverMarks_21 : decode cX11_handOverMarks 21 = .ok (.astore 5, 2) := by decide +kernel
theorem dX11_handOverMarks_23 : decode cX11_handOverMarks 23 = .ok (.aload 5, 2) := by decide +kernel
theorem dX11_handOverMarks_25 : decode cX11_handOverMarks 25 = .ok (.ifnull 21, 3) := by decide +kernel
theorem dX11_handOverMarks_28 : decode cX11_handOverMarks 28 = .ok (.aload 5, 2) := by decide +kernel
theorem dX11_handOverMarks_30 : decode cX11_handOverMarks 30 = .ok (.getfield 117, 3) := by decide +kernel
theorem dX11_handOverMarks_33 : decode cX11_handOverMarks 33 = .ok (.iload_n 2, 1) := by decide +kernel
theorem dX11_handOverMarks_34 : decode cX11_handOverMarks 34 = .ok (.if_icmp .ne 12, 3) := by decide +kernel
theorem dX11_handOverMarks_37 : decode cX11_handOverMarks 37 = .ok (.aload 5, 2) := by decide +kernel
theorem dX11_handOverMarks_39 : decode cX11_handOverMarks 39 = .ok (.iload_n 1, 1) := by decide +kernel
theorem dX11_handOverMarks_40 : decode cX11_handOverMarks 40 = .ok (.putfield 117, 3) := by decide +kernel
theorem dX11_handOverMarks_43 : decode cX11_handOverMarks 43 = .ok (.iinc 3 1, 3) := by decide +kernel
theorem dX11_handOverMarks_46 : decode cX11_handOverMarks 46 = .ok (.iinc 4 1, 3) := by decide +kernel
theorem dX11_handOverMarks_49 : decode cX11_handOverMarks 49 = .ok (.goto (-44), 3) := by decide +kernel
theorem dX11_handOverMarks_52 : decode cX11_handOverMarks 52 = .ok (.iload_n 3, 1) := by decide +kernel
theorem dX11_handOverMarks_53 : decode cX11_handOverMarks 53 = .ok (.ireturn, 1) := by decide +kernel
set_option maxRecDepth 20000 in
theorem ggX11_law_X11_isLand : GoodIn wsX11_law wsX11_isLand := goodIn_r _ [6] (by decide +kernel) (by decide +kernel)
set_option maxRecDepth 20000 in
theorem gX11_law_X11_isLand : GoodIn wsX11_law (va_wsS RX11 70 yX11_isLand wsX11_isLand) := goodIn_app (goodIn_of _ (by decide +kernel)) ggX11_law_X11_isLand
set_option maxRecDepth 20000 in
theorem ggX11_law_X11_newLaw : GoodIn wsX11_law wsX11_newLaw := goodIn_r _ [9, 10, 11, 12, 13, 14, 15, 16, 17, 18, 19, 20, 21, 22, 23, 24, 25, 26, 27, 28, 29, 30, 31, 32, 33, 34, 35, 36, 37, 38, 39, 40, 41, 42, 43, 44, 45, 46, 47, 48, 49, 50, 51, 52, 53, 54, 55, 72, 73, 74, 75, 76, 77, 78, 79, 80, 81, 82, 83, 84, 85, 86, 87, 88, 89, 90, 91, 92, 93, 94, 95, 96, 97, 98] (by decide +kernel) (by decide +kernel)
set_option maxRecDepth 20000 in
theorem gX11_law_X11_newLaw : GoodIn wsX11_law (va_wsS RX11 185 yX11_newLaw wsX11_newLaw) := goodIn_app (goodIn_of _ (by decide +kernel)) ggX11_law_X11_newLaw
theorem dX11_law_0 : decode cX11_law 0 = .ok (.iload_n 1, 1) := by decide +kernel
theorem dX11_law_1 : decode cX11_law 1 = .ok (.ifCond .lt 32, 3) := by decide +kernel
theorem dX11_law_4 : decode cX11_law 4 = .ok (.iload_n 1, 1) := by decide +kernel
theorem dX11_law_5 : decode cX11_law 5 = .ok (.bipush 10, 2) := by decide +kernel
theorem dX11_law_7 : decode cX11_law 7 = .ok (.irem, 1) := by decide +kernel
theorem dX11_law_8 : decode cX11_law 8 = .ok (.invokestatic 70, 3) := by decide +kernel
theorem dX11_law_11 : decode cX11_law 11 = .ok (.ifCond .eq 22, 3) := by decide +kernel
theorem dX11_law_14 : decode cX11_law 14 = .ok (.iload_n 1, 1) := by decide +kernel
theorem dX11_law_15 : decode cX11_law 15 = .ok (.bipush 10, 2) := by decide +kernel
theorem dX11_law_17 : decode cX11_law 17 = .ok (.idiv, 1) := by decide +kernel
theorem dX11_law_18 : decode cX11_law 18 = .ok (.iconst 3, 1) := by decide +kernel
theorem dX11_law_19 : decode cX11_law 19 = .ok (.if_icmp .gt 14, 3) := by decide +kernel
theorem dX11_law_22 : decode cX11_law 22 = .ok (.iload_n 2, 1) := by decide +kernel
theorem dX11_law_23 : decode cX11_law 23 = .ok (.ifCond .lt 10, 3) := by decide +kernel
theorem dX11_law_26 : decode cX11_law 26 = .ok (.iload_n 2, 1) := by decide +kernel
theorem dX11_law_27 : decode cX11_law 27 = .ok (.sipush 200, 3) := by decide +kernel
theorem dX11_law_30 : decode cX11_law 30 = .ok (.if_icmp .le 5, 3) := by decide +kernel
theorem dX11_law_33 : decode cX11_law 33 = .ok (.iconst (-1), 1) := by decide +kernel
theorem dX11_law_34 : decode cX11_law 34 = .ok (.ireturn, 1) := by decide +kernel
theorem dX11_law_35 : decode cX11_law 35 = .ok (.iload_n 1, 1) := by decide +kernel
theorem dX11_law_36 : decode cX11_law 36 = .ok (.bipush 10, 2) := by decide +kernel
theorem dX11_law_38 : decode cX11_law 38 = .ok (.idiv, 1) := by decide +kernel
theorem dX11_law_39 : decode cX11_law 39 = .ok (.istore 4, 2) := by decide +kernel
theorem dX11_law_41 : decode cX11_law 41 = .ok (.iload 4, 2) := by decide +kernel
theorem dX11_law_43 : decode cX11_law 43 = .ok (.ifCond .eq 9, 3) := by decide +kernel
theorem dX11_law_46 : decode cX11_law 46 = .ok (.iload 4, 2) := by decide +kernel
theorem dX11_law_48 : decode cX11_law 48 = .ok (.iconst 2, 1) := by decide +kernel
theorem dX11_law_49 : decode cX11_law 49 = .ok (.if_icmp .ne 7, 3) := by decide +kernel
theorem dX11_law_52 : decode cX11_law 52 = .ok (.iconst 1, 1) := by decide +kernel
theorem dX11_law_53 : decode cX11_law 53 = .ok (.goto 4, 3) := by decide +kernel
theorem dX11_law_56 : decode cX11_law 56 = .ok (.iconst 0, 1) := by decide +kernel
theorem dX11_law_57 : decode cX11_law 57 = .ok (.istore 5, 2) := by decide +kernel
theorem dX11_law_59 : decode cX11_law 59 = .ok (.iload 5, 2) := by decide +kernel
theorem dX11_law_61 : decode cX11_law 61 = .ok (.ifCond .eq 17, 3) := by decide +kernel
theorem dX11_law_64 : decode cX11_law 64 = .ok (.iload_n 3, 1) := by decide +kernel
theorem dX11_law_65 : decode cX11_law 65 = .ok (.iconst 1, 1) := by decide +kernel
theorem dX11_law_66 : decode cX11_law 66 = .ok (.if_icmp .lt 10, 3) := by decide +kernel
theorem dX11_law_69 : decode cX11_law 69 = .ok (.iload_n 3, 1) := by decide +kernel
theorem dX11_law_70 : decode cX11_law 70 = .ok (.sipush 200, 3) := by decide +kernel
theorem dX11_law_73 : decode cX11_law 73 = .ok (.if_icmp .le 5, 3) := by decide +kernel
theorem dX11_law_76 : decode cX11_law 76 = .ok (.iconst (-1), 1) := by decide +kernel
theorem dX11_law_77 : decode cX11_law 77 = .ok (.ireturn, 1) := by decide +kernel
theorem dX11_law_78 : decode cX11_law 78 = .ok (.aload_n 0, 1) := by decide +kernel
theorem dX11_law_79 : decode cX11_law 79 = .ok (.getfield 157, 3) := by decide +kernel
theorem dX11_law_82 : decode cX11_law 82 = .ok (.bipush 12, 2) := by decide +kernel
theorem dX11_law_84 : decode cX11_law 84 = .ok (.if_icmp .lt 6, 3) := by decide +kernel
theorem dX11_law_87 : decode cX11_law 87 = .ok (.bipush (-2), 2) := by decide +kernel
theorem dX11_law_89 : decode cX11_law 89 = .ok (.ireturn, 1) := by decide +kernel
theorem dX11_law_90 : decode cX11_law 90 = .ok (.aload_n 0, 1) := by decide +kernel
theorem dX11_law_91 : decode cX11_law 91 = .ok (.getfield 157, 3) := by decide +kernel
theorem dX11_law_94 : decode cX11_law 94 = .ok (.istore 6, 2) := by decide +kernel
theorem dX11_law_96 : decode cX11_law 96 = .ok (.aload_n 0, 1) := by decide +kernel
theorem dX11_law_97 : decode cX11_law 97 = .ok (.getfield 33, 3) := by decide +kernel
theorem dX11_law_100 : decode cX11_law 100 = .ok (.iload 6, 2) := by decide +kernel
theorem dX11_law_102 : decode cX11_law 102 = .ok (.iload 4, 2) := by decide +kernel
theorem dX11_law_104 : decode cX11_law 104 = .ok (.iload_n 1, 1) := by decide +kernel
theorem dX11_law_105 : decode cX11_law 105 = .ok (.bipush 10, 2) := by decide +kernel
theorem dX11_law_107 : decode cX11_law 107 = .ok (.irem, 1) := by decide +kernel
theorem dX11_law_108 : decode cX11_law 108 = .ok (.iload_n 2, 1) := by decide +kernel
theorem dX11_law_109 : decode cX11_law 109 = .ok (.iload_n 3, 1) := by decide +kernel
theorem dX11_law_110 : decode cX11_law 110 = .ok (.invokestatic 185, 3) := by decide +kernel
theorem dX11_law_113 : decode cX11_law 113 = .ok (.aastore, 1) := by decide +kernel
theorem dX11_law_114 : decode cX11_law 114 = .ok (.aload_n 0, 1) := by decide +kernel
theorem dX11_law_115 : decode cX11_law 115 = .ok (.dup, 1) := by decide +kernel
theorem dX11_law_116 : decode cX11_law 116 = .ok (.getfield 157, 3) := by decide +kernel
theorem dX11_law_119 : decode cX11_law 119 = .ok (.iconst 1, 1) := by decide +kernel
theorem dX11_law_120 : decode cX11_law 120 = .ok (.iadd, 1) := by decide +kernel
theorem dX11_law_121 : decode cX11_law 121 = .ok (.putfield 157, 3) := by decide +kernel
theorem dX11_law_124 : decode cX11_law 124 = .ok (.iload 6, 2) := by decide +kernel
theorem dX11_law_126 : decode cX11_law 126 = .ok (.ireturn, 1) := by decide +kernel
set_option maxRecDepth 20000 in
theorem ggX11_kept_X11_lawAt : GoodIn wsX11_kept wsX11_lawAt := goodIn_r _ [7, 8, 9, 73, 74, 75, 76, 77, 78, 79, 80, 81, 82, 83, 84, 85, 86, 87, 88] (by decide +kernel) (by decide +kernel)
set_option maxRecDepth 20000 in
theorem gX11_kept_X11_lawAt : GoodIn wsX11_kept (wsV RX11 189 RX11 yX11_lawAt wsX11_lawAt) := goodIn_app (goodIn_of _ (by decide +kernel)) ggX11_kept_X11_lawAt
set_option maxRecDepth 20000 in
theorem ggX11_kept_X11_isPerson : GoodIn wsX11_kept wsX11_isPerson := goodIn_r _ [13, 14, 73, 74, 75, 76, 77, 78, 79, 80, 81, 82, 83, 84, 85, 86, 87, 88] (by decide +kernel) (by decide +kernel)
set_option maxRecDepth 20000 in
theorem gX11_kept_X11_isPerson : GoodIn wsX11_kept (wsV RX11 78 RX11 yX11_isPerson wsX11_isPerson) := goodIn_app (goodIn_of _ (by decide +kernel)) ggX11_kept_X11_isPerson
set_option maxRecDepth 20000 in
theorem ggX11_kept_X11_isDay : GoodIn wsX11_kept wsX11_isDay := goodIn_r _ [17] (by decide +kernel) (by decide +kernel)
set_option maxRecDepth 20000 in
theorem gX11_kept_X11_isDay : GoodIn wsX11_kept (va_wsS RX11 95 yX11_isDay wsX11_isDay) := goodIn_app (goodIn_of _ (by decide +kernel)) ggX11_kept_X11_isDay
set_option maxRecDepth 20000 in
theorem ggX11_kept_X9_lookAt : GoodIn wsX11_kept wsX9_lookAt := goodIn_r _ [23, 24, 25, 26, 27, 28, 29, 30, 31, 32, 33, 34, 35, 36, 37, 38, 39, 40, 41, 89, 90, 91, 92, 93, 94, 95, 96, 97, 98, 99, 100, 101, 102, 103, 104, 105, 106, 107, 108, 109, 110, 111, 112, 113, 114, 115] (by decide +kernel) (by decide +kernel)
set_option maxRecDepth 20000 in
theorem gX11_kept_X9_lookAt_u193X0 : GoodIn wsX11_kept (va_wsU RX11 193 RX0 "NightBook$Window" ⟨"NightBook$Window", "lookAt", "([II)V"⟩ yX9_lookAt wsX9_lookAt) := goodIn_app (goodIn_of _ (by decide +kernel)) ggX11_kept_X9_lookAt
set_option maxRecDepth 20000 in
theorem gX11_kept_X9_lookAt_u193X3 : GoodIn wsX11_kept (va_wsU RX11 193 RX3 "NightBook$Window" ⟨"NightBook$Window", "lookAt", "([II)V"⟩ yX9_lookAt wsX9_lookAt) := goodIn_app (goodIn_of _ (by decide +kernel)) ggX11_kept_X9_lookAt
set_option maxRecDepth 20000 in
theorem gX11_kept_X9_lookAt_u193X7 : GoodIn wsX11_kept (va_wsU RX11 193 RX7 "NightBook$Window" ⟨"NightBook$Window", "lookAt", "([II)V"⟩ yX9_lookAt wsX9_lookAt) := goodIn_app (goodIn_of _ (by decide +kernel)) ggX11_kept_X9_lookAt
set_option maxRecDepth 20000 in
theorem gX11_kept_X9_lookAt : GoodIn wsX11_kept (wsV RX11 193 RX9 yX9_lookAt wsX9_lookAt) := goodIn_app (goodIn_of _ (by decide +kernel)) ggX11_kept_X9_lookAt
set_option maxRecDepth 20000 in
theorem ggX11_kept_X0_verdict : GoodIn wsX11_kept wsX0_verdict := goodIn_r _ [52, 53, 54, 55, 56, 89, 90, 91, 92, 93, 94, 95, 96, 97, 98, 99, 100, 101, 102, 103, 104, 105, 106, 107, 108, 109, 110, 111, 112, 113, 114, 115] (by decide +kernel) (by decide +kernel)
set_option maxRecDepth 20000 in
theorem gX11_kept_X0_verdict_u200X0 : GoodIn wsX11_kept (va_wsO RX11 200 RX0 "NightBook$Window" ⟨"NightBook$Window", "verdict", "(LNightBook$Tally;I)I"⟩ yX0_verdict wsX0_verdict) := goodIn_app (goodIn_of _ (by decide +kernel)) ggX11_kept_X0_verdict
set_option maxRecDepth 20000 in
theorem ggX11_kept_X3_verdict : GoodIn wsX11_kept wsX3_verdict := goodIn_r _ [61, 62, 63, 64, 65, 113, 114, 115, 89, 90, 91, 92, 93, 94, 95, 96, 97, 98, 99, 100, 101, 102, 103, 104, 105, 106, 107, 108, 109, 110, 111, 112] (by decide +kernel) (by decide +kernel)
set_option maxRecDepth 20000 in
theorem gX11_kept_X3_verdict_u200X3 : GoodIn wsX11_kept (va_wsO RX11 200 RX3 "NightBook$Window" ⟨"NightBook$Window", "verdict", "(LNightBook$Tally;I)I"⟩ yX3_verdict wsX3_verdict) := goodIn_app (goodIn_of _ (by decide +kernel)) ggX11_kept_X3_verdict
set_option maxRecDepth 20000 in
theorem ggX11_kept_X9_verdict : GoodIn wsX11_kept wsX9_verdict := goodIn_r _ [57, 68, 69, 70, 113, 114, 115, 89, 90, 91, 92, 93, 94, 95, 96, 97, 98, 99, 100, 101, 102, 103, 104, 105, 106, 107, 108, 109, 110, 111, 112] (by decide +kernel) (by decide +kernel)
set_option maxRecDepth 20000 in
theorem gX11_kept_X9_verdict_u200X7 : GoodIn wsX11_kept (va_wsU RX11 200 RX7 "NightBook$Window" ⟨"NightBook$Window", "verdict", "(LNightBook$Tally;I)I"⟩ yX9_verdict wsX9_verdict) := goodIn_app (goodIn_of _ (by decide +kernel)) ggX11_kept_X9_verdict
set_option maxRecDepth 20000 in
theorem gX11_kept_X9_verdict : GoodIn wsX11_kept (wsV RX11 200 RX9 yX9_verdict wsX9_verdict) := goodIn_app (goodIn_of _ (by decide +kernel)) ggX11_kept_X9_verdict
theorem dX11_kept_0 : decode cX11_kept 0 = .ok (.aload_n 0, 1) := by decide +kernel
theorem dX11_kept_1 : decode cX11_kept 1 = .ok (.iload_n 1, 1) := by decide +kernel
theorem dX11_kept_2 : decode cX11_kept 2 = .ok (.invokevirtual 189, 3) := by decide +kernel
theorem dX11_kept_5 : decode cX11_kept 5 = .ok (.astore 4, 2) := by decide +kernel
theorem dX11_kept_7 : decode cX11_kept 7 = .ok (.aload 4, 2) := by decide +kernel
theorem dX11_kept_9 : decode cX11_kept 9 = .ok (.ifnull 18, 3) := by decide +kernel
theorem dX11_kept_12 : decode cX11_kept 12 = .ok (.aload_n 0, 1) := by decide +kernel
theorem dX11_kept_13 : decode cX11_kept 13 = .ok (.iload_n 2, 1) := by decide +kernel
theorem dX11_kept_14 : decode cX11_kept 14 = .ok (.invokevirtual 78, 3) := by decide +kernel
theorem dX11_kept_17 : decode cX11_kept 17 = .ok (.ifCond .eq 10, 3) := by decide +kernel
theorem dX11_kept_20 : decode cX11_kept 20 = .ok (.iload_n 3, 1) := by decide +kernel
theorem dX11_kept_21 : decode cX11_kept 21 = .ok (.invokestatic 95, 3) := by decide +kernel
theorem dX11_kept_24 : decode cX11_kept 24 = .ok (.ifCond .ne 5, 3) := by decide +kernel
theorem dX11_kept_27 : decode cX11_kept 27 = .ok (.iconst (-1), 1) := by decide +kernel
theorem dX11_kept_28 : decode cX11_kept 28 = .ok (.ireturn, 1) := by decide +kernel
theorem dX11_kept_29 : decode cX11_kept 29 = .ok (.aload 4, 2) := by decide +kernel
theorem dX11_kept_31 : decode cX11_kept 31 = .ok (.aload_n 0, 1) := by decide +kernel
theorem dX11_kept_32 : decode cX11_kept 32 = .ok (.getfield 22, 3) := by decide +kernel
theorem dX11_kept_35 : decode cX11_kept 35 = .ok (.iload_n 2, 1) := by decide +kernel
theorem dX11_kept_36 : decode cX11_kept 36 = .ok (.aaload, 1) := by decide +kernel
theorem dX11_kept_37 : decode cX11_kept 37 = .ok (.iload_n 3, 1) := by decide +kernel
theorem dX11_kept_38 : decode cX11_kept 38 = .ok (.invokevirtual 193, 3) := by decide +kernel
theorem dX11_kept_41 : decode cX11_kept 41 = .ok (.aload 4, 2) := by decide +kernel
theorem dX11_kept_43 : decode cX11_kept 43 = .ok (.aload 4, 2) := by decide +kernel
theorem dX11_kept_45 : decode cX11_kept 45 = .ok (.getfield 196, 3) := by decide +kernel
theorem dX11_kept_48 : decode cX11_kept 48 = .ok (.iload_n 3, 1) := by decide +kernel
theorem dX11_kept_49 : decode cX11_kept 49 = .ok (.invokevirtual 200, 3) := by decide +kernel
theorem dX11_kept_52 : decode cX11_kept 52 = .ok (.ireturn, 1) := by decide +kernel
set_option maxRecDepth 20000 in
theorem ggX11_first_X11_lawAt : GoodIn wsX11_first wsX11_lawAt := goodIn_r _ [6, 7, 8, 86, 87, 88, 89, 90, 91, 92, 93, 94, 95, 96, 97, 98, 99, 100, 101] (by decide +kernel) (by decide +kernel)
set_option maxRecDepth 20000 in
theorem gX11_first_X11_lawAt : GoodIn wsX11_first (wsV RX11 189 RX11 yX11_lawAt wsX11_lawAt) := goodIn_app (goodIn_of _ (by decide +kernel)) ggX11_first_X11_lawAt
set_option maxRecDepth 20000 in
theorem ggX11_first_X11_isPerson : GoodIn wsX11_first wsX11_isPerson := goodIn_r _ [12, 13, 86, 87, 88, 89, 90, 91, 92, 93, 94, 95, 96, 97, 98, 99, 100, 101] (by decide +kernel) (by decide +kernel)
set_option maxRecDepth 20000 in
theorem gX11_first_X11_isPerson : GoodIn wsX11_first (wsV RX11 78 RX11 yX11_isPerson wsX11_isPerson) := goodIn_app (goodIn_of _ (by decide +kernel)) ggX11_first_X11_isPerson
set_option maxRecDepth 20000 in
theorem ggX11_first_X11_isDay : GoodIn wsX11_first wsX11_isDay := goodIn_r _ [16] (by decide +kernel) (by decide +kernel)
set_option maxRecDepth 20000 in
theorem gX11_first_X11_isDay : GoodIn wsX11_first (va_wsS RX11 95 yX11_isDay wsX11_isDay) := goodIn_app (goodIn_of _ (by decide +kernel)) ggX11_first_X11_isDay
set_option maxRecDepth 20000 in
theorem ggX11_first_X11_firstAtMost : GoodIn wsX11_first wsX11_firstAtMost := goodIn_r _ [19, 20, 21, 22, 23, 24, 25, 26, 27, 28, 29, 30, 31, 32, 33, 34, 35, 36, 37, 38, 39, 40, 41, 42, 43, 44, 45, 46, 47, 48, 49, 50, 51, 52, 53, 54, 55, 56, 57, 58, 59, 60, 61, 62, 63, 64, 65, 66, 67, 68, 69, 70, 71, 72, 73, 74, 75, 76, 77, 78, 79, 80, 81, 82, 83, 84, 85, 102, 103, 104, 105, 106, 107, 108, 109, 110, 111, 112, 113, 114, 115, 116, 117, 118, 119, 120, 121, 122, 123, 124, 125, 126, 127, 128] (by decide +kernel) (by decide +kernel)
set_option maxRecDepth 20000 in
theorem gX11_first_X11_firstAtMost : GoodIn wsX11_first (va_wsS RX11 204 yX11_firstAtMost wsX11_firstAtMost) := goodIn_app (goodIn_of _ (by decide +kernel)) ggX11_first_X11_firstAtMost
theorem dX11_first_0 : decode cX11_first 0 = .ok (.aload_n 0, 1) := by decide +kernel
theorem dX11_first_1 : decode cX11_first 1 = .ok (.iload_n 1, 1) := by decide +kernel
theorem dX11_first_2 : decode cX11_first 2 = .ok (.invokevirtual 189, 3) := by decide +kernel
theorem dX11_first_5 : decode cX11_first 5 = .ok (.astore 5, 2) := by decide +kernel
theorem dX11_first_7 : decode cX11_first 7 = .ok (.aload 5, 2) := by decide +kernel
theorem dX11_first_9 : decode cX11_first 9 = .ok (.ifnull 18, 3) := by decide +kernel
theorem dX11_first_12 : decode cX11_first 12 = .ok (.aload_n 0, 1) := by decide +kernel
theorem dX11_first_13 : decode cX11_first 13 = .ok (.iload_n 2, 1) := by decide +kernel
theorem dX11_first_14 : decode cX11_first 14 = .ok (.invokevirtual 78, 3) := by decide +kernel
theorem dX11_first_17 : decode cX11_first 17 = .ok (.ifCond .eq 10, 3) := by decide +kernel
theorem dX11_first_20 : decode cX11_first 20 = .ok (.iload_n 3, 1) := by decide +kernel
theorem dX11_first_21 : decode cX11_first 21 = .ok (.invokestatic 95, 3) := by decide +kernel
theorem dX11_first_24 : decode cX11_first 24 = .ok (.ifCond .ne 5, 3) := by decide +kernel
theorem dX11_first_27 : decode cX11_first 27 = .ok (.iconst (-1), 1) := by decide +kernel
theorem dX11_first_28 : decode cX11_first 28 = .ok (.ireturn, 1) := by decide +kernel
theorem dX11_first_29 : decode cX11_first 29 = .ok (.iload 4, 2) := by decide +kernel
theorem dX11_first_31 : decode cX11_first 31 = .ok (.ifCond .eq 7, 3) := by decide +kernel
theorem dX11_first_34 : decode cX11_first 34 = .ok (.iconst 0, 1) := by decide +kernel
theorem dX11_first_35 : decode cX11_first 35 = .ok (.goto 4, 3) := by decide +kernel
theorem dX11_first_38 : decode cX11_first 38 = .ok (.iconst 1, 1) := by decide +kernel
theorem dX11_first_39 : decode cX11_first 39 = .ok (.aload 5, 2) := by decide +kernel
theorem dX11_first_41 : decode cX11_first 41 = .ok (.aload_n 0, 1) := by decide +kernel
theorem dX11_first_42 : decode cX11_first 42 = .ok (.getfield 22, 3) := by decide +kernel
theorem dX11_first_45 : decode cX11_first 45 = .ok (.iload_n 2, 1) := by decide +kernel
theorem dX11_first_46 : decode cX11_first 46 = .ok (.aaload, 1) := by decide +kernel
theorem dX11_first_47 : decode cX11_first 47 = .ok (.iload_n 3, 1) := by decide +kernel
theorem dX11_first_48 : decode cX11_first 48 = .ok (.invokestatic 204, 3) := by decide +kernel
theorem dX11_first_51 : decode cX11_first 51 = .ok (.ireturn, 1) := by decide +kernel
set_option maxRecDepth 20000 in
theorem ggX11_broken_X11_isPerson : GoodIn wsX11_broken wsX11_isPerson := goodIn_r _ [8, 9, 79, 80, 81, 82, 83, 84, 85, 86, 87, 88, 89, 90, 91, 92, 93, 94] (by decide +kernel) (by decide +kernel)
set_option maxRecDepth 20000 in
theorem gX11_broken_X11_isPerson : GoodIn wsX11_broken (wsV RX11 78 RX11 yX11_isPerson wsX11_isPerson) := goodIn_app (goodIn_of _ (by decide +kernel)) ggX11_broken_X11_isPerson
set_option maxRecDepth 20000 in
theorem ggX11_broken_X11_firstAtMost : GoodIn wsX11_broken wsX11_firstAtMost := goodIn_r _ [12, 13, 14, 15, 16, 17, 18, 19, 20, 21, 22, 23, 24, 25, 26, 27, 28, 29, 30, 31, 32, 33, 34, 35, 36, 37, 38, 39, 40, 41, 42, 43, 44, 45, 46, 47, 48, 49, 50, 51, 52, 53, 54, 55, 56, 57, 58, 59, 60, 61, 62, 63, 64, 65, 66, 67, 68, 69, 70, 71, 72, 73, 74, 75, 76, 77, 78, 95, 96, 97, 98, 99, 100, 101, 102, 103, 104, 105, 106, 107, 108, 109, 110, 111, 112, 113, 114, 115, 116, 117, 118, 119, 120, 121] (by decide +kernel) (by decide +kernel)
set_option maxRecDepth 20000 in
theorem gX11_broken_X11_firstAtMost : GoodIn wsX11_broken (va_wsS RX11 204 yX11_firstAtMost wsX11_firstAtMost) := goodIn_app (goodIn_of _ (by decide +kernel)) ggX11_broken_X11_firstAtMost
theorem dX11_broken_0 : decode cX11_broken 0 = .ok (.aload_n 0, 1) := by decide +kernel
theorem dX11_broken_1 : decode cX11_broken 1 = .ok (.iload_n 1, 1) := by decide +kernel
theorem dX11_broken_2 : decode cX11_broken 2 = .ok (.invokevirtual 78, 3) := by decide +kernel
theorem dX11_broken_5 : decode cX11_broken 5 = .ok (.ifCond .ne 5, 3) := by decide +kernel
theorem dX11_broken_8 : decode cX11_broken 8 = .ok (.iconst (-1), 1) := by decide +kernel
theorem dX11_broken_9 : decode cX11_broken 9 = .ok (.ireturn, 1) := by decide +kernel
theorem dX11_broken_10 : decode cX11_broken 10 = .ok (.iconst 0, 1) := by decide +kernel
theorem dX11_broken_11 : decode cX11_broken 11 = .ok (.istore_n 2, 1) := by decide +kernel
theorem dX11_broken_12 : decode cX11_broken 12 = .ok (.iconst 0, 1) := by decide +kernel
theorem dX11_broken_13 : decode cX11_broken 13 = .ok (.istore_n 3, 1) := by decide +kernel
theorem dX11_broken_14 : decode cX11_broken 14 = .ok (.iload_n 3, 1) := by decide +kernel
theorem dX11_broken_15 : decode cX11_broken 15 = .ok (.aload_n 0, 1) := by decide +kernel
theorem dX11_broken_16 : decode cX11_broken 16 = .ok (.getfield 157, 3) := by decide +kernel
theorem dX11_broken_19 : decode cX11_broken 19 = .ok (.if_icmp .ge 46, 3) := by decide +kernel
theorem dX11_broken_22 : decode cX11_broken 22 = .ok (.aload_n 0, 1) := by decide +kernel
theorem dX11_broken_23 : decode cX11_broken 23 = .ok (.getfield 33, 3) := by decide +kernel
theorem dX11_broken_26 : decode cX11_broken 26 = .ok (.iload_n 3, 1) := by decide +kernel
theorem dX11_broken_27 : decode cX11_broken 27 = .ok (.aaload, 1) := by decide +kernel
theorem dX11_broken_28 : decode cX11_broken 28 = .ok (.astore 4, 2) := by decide +kernel
theorem dX11_broken_30 : decode cX11_broken 30 = .ok (.aload 4, 2) := by decide +kernel
theorem dX11_broken_32 : decode cX11_broken 32 = .ok (.ifnull 27, 3) := by decide +kernel
theorem dX11_broken_35 : decode cX11_broken 35 = .ok (.iconst 0, 1) := by decide +kernel
theorem dX11_broken_36 : decode cX11_broken 36 = .ok (.aload 4, 2) := by decide +kernel
theorem dX11_broken_38 : decode cX11_broken 38 = .ok (.aload_n 0, 1) := by decide +kernel
theorem dX11_broken_39 : decode cX11_broken 39 = .ok (.getfield 22, 3) := by decide +kernel
theorem dX11_broken_42 : decode cX11_broken 42 = .ok (.iload_n 1, 1) := by decide +kernel
theorem dX11_broken_43 : decode cX11_broken 43 = .ok (.aaload, 1) := by decide +kernel
theorem dX11_broken_44 : decode cX11_broken 44 = .ok (.iconst 0, 1) := by decide +kernel
theorem dX11_broken_45 : decode cX11_broken 45 = .ok (.invokestatic 204, 3) := by decide +kernel
theorem dX11_broken_48 : decode cX11_broken 48 = .ok (.bipush (-2), 2) := by decide +kernel
theorem dX11_broken_50 : decode cX11_broken 50 = .ok (.if_icmp .eq 9, 3) := by decide +kernel
theorem dX11_broken_53 : decode cX11_broken 53 = .ok (.iload_n 2, 1) := by decide +kernel
theorem dX11_broken_54 : decode cX11_broken 54 = .ok (.iconst 1, 1) := by decide +kernel
theorem dX11_broken_55 : decode cX11_broken 55 = .ok (.iload_n 3, 1) := by decide +kernel
theorem dX11_broken_56 : decode cX11_broken 56 = .ok (.ishl, 1) := by decide +kernel
theorem dX11_broken_57 : decode cX11_broken 57 = .ok (.ior, 1) := by decide +kernel
theorem dX11_broken_58 : decode cX11_broken 58 = .ok (.istore_n 2, 1) := by decide +kernel
theorem dX11_broken_59 : decode cX11_broken 59 = .ok (.iinc 3 1, 3) := by decide +kernel
theorem dX11_broken_62 : decode cX11_broken 62 = .ok (.goto (-48), 3) := by decide +kernel
theorem dX11_broken_65 : decode cX11_broken 65 = .ok (.iload_n 2, 1) := by decide +kernel
theorem dX11_broken_66 : decode cX11_broken 66 = .ok (.ireturn, 1) := by decide +kernel
set_option maxRecDepth 20000 in
theorem ggX11_free_X11_isPerson : GoodIn wsX11_free wsX11_isPerson := goodIn_r _ [5, 6, 155, 156, 157, 158, 159, 160, 161, 162, 163, 164, 165, 166, 167, 168, 169, 170] (by decide +kernel) (by decide +kernel)
set_option maxRecDepth 20000 in
theorem gX11_free_X11_isPerson : GoodIn wsX11_free (wsV RX11 78 RX11 yX11_isPerson wsX11_isPerson) := goodIn_app (goodIn_of _ (by decide +kernel)) ggX11_free_X11_isPerson
set_option maxRecDepth 20000 in
theorem ggX11_free_X11_isLand : GoodIn wsX11_free wsX11_isLand := goodIn_r _ [9] (by decide +kernel) (by decide +kernel)
set_option maxRecDepth 20000 in
theorem gX11_free_X11_isLand : GoodIn wsX11_free (va_wsS RX11 70 yX11_isLand wsX11_isLand) := goodIn_app (goodIn_of _ (by decide +kernel)) ggX11_free_X11_isLand
set_option maxRecDepth 20000 in
theorem ggX11_free_X11_areDays : GoodIn wsX11_free wsX11_areDays := goodIn_r _ [12, 13, 14, 4, 15] (by decide +kernel) (by decide +kernel)
set_option maxRecDepth 20000 in
theorem gX11_free_X11_areDays : GoodIn wsX11_free (va_wsS RX11 81 yX11_areDays wsX11_areDays) := goodIn_app (goodIn_of _ (by decide +kernel)) ggX11_free_X11_areDays
set_option maxRecDepth 20000 in
theorem ggX11_free_X11_travel : GoodIn wsX11_free wsX11_travel := goodIn_r _ [19, 20, 21, 22, 23, 24, 25, 26, 27, 28, 29, 30, 4, 31, 32, 33, 34, 35, 36, 37, 38, 39, 40, 41, 42, 43, 44, 45, 46, 47, 48, 49, 50, 51, 52, 53, 54, 55, 56, 57, 58, 59, 60, 61, 62, 63, 64, 65, 66, 67, 68, 69, 70, 71, 72, 73, 74, 75, 76, 77, 78, 79, 80, 81, 82, 83, 84, 85, 86, 87, 88, 89, 90, 91, 92, 93, 94, 95, 96, 97, 98, 99, 100, 101, 102, 103, 104, 105, 106, 107, 108, 109, 110, 111, 112, 113, 114, 115, 116, 117, 118, 119, 120, 121, 122, 123, 124, 125, 126, 127, 128, 129, 130, 131, 132, 133, 134, 135, 136, 137, 138, 139, 140, 141, 142, 143, 144, 145, 146, 147, 148, 149, 150, 151, 152, 153, 154, 155, 156, 157, 158, 159, 160, 161, 162, 163, 164, 165, 166, 167, 168, 169, 170, 171, 172, 173, 174, 175, 176, 177, 178, 179, 180, 181, 182, 183, 184, 185, 186, 187, 188, 189, 190, 191, 192, 193, 194, 195, 196, 197, 198, 199, 200, 201] (by decide +kernel) (by decide +kernel)
set_option maxRecDepth 20000 in
theorem gX11_free_X11_travel : GoodIn wsX11_free (wsV RX11 208 RX11 yX11_travel wsX11_travel) := goodIn_app (goodIn_of _ (by decide +kernel)) ggX11_free_X11_travel
theorem dX11_free_0 : decode cX11_free 0 = .ok (.aload_n 0, 1) := by decide +kernel
theorem dX11_free_1 : decode cX11_free 1 = .ok (.iload_n 1, 1) := by decide +kernel
theorem dX11_free_2 : decode cX11_free 2 = .ok (.invokevirtual 78, 3) := by decide +kernel
theorem dX11_free_5 : decode cX11_free 5 = .ok (.ifCond .eq 19, 3) := by decide +kernel
theorem dX11_free_8 : decode cX11_free 8 = .ok (.iload_n 2, 1) := by decide +kernel
theorem dX11_free_9 : decode cX11_free 9 = .ok (.invokestatic 70, 3) := by decide +kernel
theorem dX11_free_12 : decode cX11_free 12 = .ok (.ifCond .eq 12, 3) := by decide +kernel
theorem dX11_free_15 : decode cX11_free 15 = .ok (.iload_n 3, 1) := by decide +kernel
theorem dX11_free_16 : decode cX11_free 16 = .ok (.iload 4, 2) := by decide +kernel
theorem dX11_free_18 : decode cX11_free 18 = .ok (.invokestatic 81, 3) := by decide +kernel
theorem dX11_free_21 : decode cX11_free 21 = .ok (.ifCond .ne 5, 3) := by decide +kernel
theorem dX11_free_24 : decode cX11_free 24 = .ok (.iconst (-1), 1) := by decide +kernel
theorem dX11_free_25 : decode cX11_free 25 = .ok (.ireturn, 1) := by decide +kernel
theorem dX11_free_26 : decode cX11_free 26 = .ok (.aload_n 0, 1) := by decide +kernel
theorem dX11_free_27 : decode cX11_free 27 = .ok (.iload_n 1, 1) := by decide +kernel
theorem dX11_free_28 : decode cX11_free 28 = .ok (.iload_n 2, 1) := by decide +kernel
theorem dX11_free_29 : decode cX11_free 29 = .ok (.iload_n 3, 1) := by decide +kernel
theorem dX11_free_30 : decode cX11_free 30 = .ok (.iload 4, 2) := by decide +kernel
theorem dX11_free_32 : decode cX11_free 32 = .ok (.invokevirtual 208, 3) := by decide +kernel
theorem dX11_free_35 : decode cX11_free 35 = .ok (.ireturn, 1) := by decide +kernel
set_option maxRecDepth 20000 in
theorem ggX11_trip_X11_isPerson : GoodIn wsX11_trip wsX11_isPerson := goodIn_r _ [6, 7, 155, 156, 157, 158, 159, 160, 161, 162, 163, 164, 165, 166, 167, 168, 169, 170] (by decide +kernel) (by decide +kernel)
set_option maxRecDepth 20000 in
theorem gX11_trip_X11_isPerson : GoodIn wsX11_trip (wsV RX11 78 RX11 yX11_isPerson wsX11_isPerson) := goodIn_app (goodIn_of _ (by decide +kernel)) ggX11_trip_X11_isPerson
set_option maxRecDepth 20000 in
theorem ggX11_trip_X11_isLand : GoodIn wsX11_trip wsX11_isLand := goodIn_r _ [10] (by decide +kernel) (by decide +kernel)
set_option maxRecDepth 20000 in
theorem gX11_trip_X11_isLand : GoodIn wsX11_trip (va_wsS RX11 70 yX11_isLand wsX11_isLand) := goodIn_app (goodIn_of _ (by decide +kernel)) ggX11_trip_X11_isLand
set_option maxRecDepth 20000 in
theorem ggX11_trip_X11_areDays : GoodIn wsX11_trip wsX11_areDays := goodIn_r _ [13, 14, 15, 5, 16] (by decide +kernel) (by decide +kernel)
set_option maxRecDepth 20000 in
theorem gX11_trip_X11_areDays : GoodIn wsX11_trip (va_wsS RX11 81 yX11_areDays wsX11_areDays) := goodIn_app (goodIn_of _ (by decide +kernel)) ggX11_trip_X11_areDays
set_option maxRecDepth 20000 in
theorem ggX11_trip_X11_travel : GoodIn wsX11_trip wsX11_travel := goodIn_r _ [20, 21, 1, 22, 23, 24, 25, 26, 27, 28, 29, 30, 5, 31, 32, 33, 34, 35, 36, 37, 38, 39, 40, 41, 42, 43, 44, 45, 46, 47, 48, 49, 50, 51, 52, 53, 54, 55, 56, 57, 58, 59, 60, 61, 62, 63, 64, 65, 66, 67, 68, 69, 70, 71, 72, 73, 74, 75, 76, 77, 78, 79, 80, 81, 82, 83, 84, 85, 86, 87, 88, 89, 90, 91, 92, 93, 94, 95, 96, 97, 98, 99, 100, 101, 102, 103, 104, 105, 106, 107, 108, 109, 110, 111, 112, 113, 114, 115, 116, 117, 118, 119, 120, 121, 122, 123, 124, 125, 126, 127, 128, 129, 130, 131, 132, 133, 134, 135, 136, 137, 138, 139, 140, 141, 142, 143, 144, 145, 146, 147, 148, 149, 150, 151, 152, 153, 154, 155, 156, 157, 158, 159, 160, 161, 162, 163, 164, 165, 166, 167, 168, 169, 170, 171, 172, 173, 174, 175, 176, 177, 178, 179, 180, 181, 182, 183, 184, 185, 186, 187, 188, 189, 190, 191, 192, 193, 194, 195, 196, 197, 198, 199, 200, 201] (by decide +kernel) (by decide +kernel)
set_option maxRecDepth 20000 in
theorem gX11_trip_X11_travel : GoodIn wsX11_trip (wsV RX11 208 RX11 yX11_travel wsX11_travel) := goodIn_app (goodIn_of _ (by decide +kernel)) ggX11_trip_X11_travel
theorem dX11_trip_0 : decode cX11_trip 0 = .ok (.aload_n 0, 1) := by decide +kernel
theorem dX11_trip_1 : decode cX11_trip 1 = .ok (.iload_n 1, 1) := by decide +kernel
theorem dX11_trip_2 : decode cX11_trip 2 = .ok (.invokevirtual 78, 3) := by decide +kernel
theorem dX11_trip_5 : decode cX11_trip 5 = .ok (.ifCond .eq 24, 3) := by decide +kernel
theorem dX11_trip_8 : decode cX11_trip 8 = .ok (.iload_n 2, 1) := by decide +kernel
theorem dX11_trip_9 : decode cX11_trip 9 = .ok (.invokestatic 70, 3) := by decide +kernel
theorem dX11_trip_12 : decode cX11_trip 12 = .ok (.ifCond .eq 17, 3) := by decide +kernel
theorem dX11_trip_15 : decode cX11_trip 15 = .ok (.iload_n 3, 1) := by decide +kernel
theorem dX11_trip_16 : decode cX11_trip 16 = .ok (.iload 4, 2) := by decide +kernel
theorem dX11_trip_18 : decode cX11_trip 18 = .ok (.invokestatic 81, 3) := by decide +kernel
theorem dX11_trip_21 : decode cX11_trip 21 = .ok (.ifCond .eq 8, 3) := by decide +kernel
theorem dX11_trip_24 : decode cX11_trip 24 = .ok (.iload 5, 2) := by decide +kernel
theorem dX11_trip_26 : decode cX11_trip 26 = .ok (.ifCond .ge 5, 3) := by decide +kernel
theorem dX11_trip_29 : decode cX11_trip 29 = .ok (.iconst (-1), 1) := by decide +kernel
theorem dX11_trip_30 : decode cX11_trip 30 = .ok (.ireturn, 1) := by decide +kernel
theorem dX11_trip_31 : decode cX11_trip 31 = .ok (.aload_n 0, 1) := by decide +kernel
theorem dX11_trip_32 : decode cX11_trip 32 = .ok (.iload_n 1, 1) := by decide +kernel
theorem dX11_trip_33 : decode cX11_trip 33 = .ok (.iload_n 2, 1) := by decide +kernel
theorem dX11_trip_34 : decode cX11_trip 34 = .ok (.iload_n 3, 1) := by decide +kernel
theorem dX11_trip_35 : decode cX11_trip 35 = .ok (.iload 4, 2) := by decide +kernel
theorem dX11_trip_37 : decode cX11_trip 37 = .ok (.invokevirtual 208, 3) := by decide +kernel
theorem dX11_trip_40 : decode cX11_trip 40 = .ok (.pop, 1) := by decide +kernel
theorem dX11_trip_41 : decode cX11_trip 41 = .ok (.iconst 0, 1) := by decide +kernel
theorem dX11_trip_42 : decode cX11_trip 42 = .ok (.istore 6, 2) := by decide +kernel
theorem dX11_trip_44 : decode cX11_trip 44 = .ok (.iload_n 3, 1) := by decide +kernel
theorem dX11_trip_45 : decode cX11_trip 45 = .ok (.istore 7, 2) := by decide +kernel
theorem dX11_trip_47 : decode cX11_trip 47 = .ok (.iload 7, 2) := by decide +kernel
theorem dX11_trip_49 : decode cX11_trip 49 = .ok (.iload 4, 2) := by decide +kernel
theorem dX11_trip_51 : decode cX11_trip 51 = .ok (.if_icmp .gt 35, 3) := by decide +kernel
theorem dX11_trip_54 : decode cX11_trip 54 = .ok (.aload_n 0, 1) := by decide +kernel
theorem dX11_trip_55 : decode cX11_trip 55 = .ok (.getfield 64, 3) := by decide +kernel
theorem dX11_trip_58 : decode cX11_trip 58 = .ok (.iload 7, 2) := by decide +kernel
theorem dX11_trip_60 : decode cX11_trip 60 = .ok (.iaload, 1) := by decide +kernel
theorem dX11_trip_61 : decode cX11_trip 61 = .ok (.iconst 1, 1) := by decide +kernel
theorem dX11_trip_62 : decode cX11_trip 62 = .ok (.iload_n 2, 1) := by decide +kernel
theorem dX11_trip_63 : decode cX11_trip 63 = .ok (.ishl, 1) := by decide +kernel
theorem dX11_trip_64 : decode cX11_trip 64 = .ok (.if_icmp .ne 16, 3) := by decide +kernel
theorem dX11_trip_67 : decode cX11_trip 67 = .ok (.iload 6, 2) := by decide +kernel
theorem dX11_trip_69 : decode cX11_trip 69 = .ok (.iload 5, 2) := by decide +kernel
theorem dX11_trip_71 : decode cX11_trip 71 = .ok (.if_icmp .ne 6, 3) := by decide +kernel
theorem dX11_trip_74 : decode cX11_trip 74 = .ok (.iload 7, 2) := by decide +kernel
theorem dX11_trip_76 : decode cX11_trip 76 = .ok (.ireturn, 1) := by decide +kernel
theorem dX11_trip_77 : decode cX11_trip 77 = .ok (.iinc 6 1, 3) := by decide +kernel
theorem dX11_trip_80 : decode cX11_trip 80 = .ok (.iinc 7 1, 3) := by decide +kernel
theorem dX11_trip_83 : decode cX11_trip 83 = .ok (.goto (-36), 3) := by decide +kernel
theorem dX11_trip_86 : decode cX11_trip 86 = .ok (.bipush (-2), 2) := by decide +kernel
theorem dX11_trip_88 : decode cX11_trip 88 = .ok (.ireturn, 1) := by decide +kernel
set_option maxRecDepth 20000 in
theorem ggX11_newLaw_X7_init : GoodIn wsX11_newLaw wsX7_init := goodIn_r _ [15, 16, 17, 12, 18, 19, 20, 21, 22, 23, 24, 25, 26, 27, 28, 29, 30, 31, 32, 33, 34, 35, 36, 37, 59, 60, 61, 62, 63, 64, 53, 54, 55, 56, 57, 58, 47, 48, 49, 50, 51, 52, 65, 66, 67, 68, 69, 70, 71, 72, 73] (by decide +kernel) (by decide +kernel)
set_option maxRecDepth 20000 in
theorem gX11_newLaw_X7_init : GoodIn wsX11_newLaw (wsX7_init) := ggX11_newLaw_X7_init
set_option maxRecDepth 20000 in
theorem ggX11_newLaw_X3_init : GoodIn wsX11_newLaw wsX3_init := goodIn_r _ [40, 41, 17, 12, 18, 19, 20, 21, 22, 23, 24, 25, 26, 27, 28, 29, 30, 31, 32, 33, 34, 35, 36, 37, 59, 60, 61, 62, 63, 64, 53, 54, 55, 56, 57, 58, 47, 48, 49, 50, 51, 52, 65, 66, 67, 68, 69, 70, 71, 72, 73] (by decide +kernel) (by decide +kernel)
set_option maxRecDepth 20000 in
theorem gX11_newLaw_X3_init : GoodIn wsX11_newLaw (wsX3_init) := ggX11_newLaw_X3_init
set_option maxRecDepth 20000 in
theorem ggX11_newLaw_X0_init : GoodIn wsX11_newLaw wsX0_init := goodIn_r _ [44, 45, 14, 3, 15, 16, 17, 12, 18, 19, 20, 21, 22, 23, 24, 25, 26, 27, 28, 29, 30, 31, 32, 33, 34, 35, 36, 37, 59, 60, 61, 62, 63, 64, 53, 54, 55, 56, 57, 58, 47, 48, 49, 50, 51, 52, 65, 66, 67, 68, 69, 70, 71, 72, 73] (by decide +kernel) (by decide +kernel)
set_option maxRecDepth 20000 in
theorem gX11_newLaw_X0_init : GoodIn wsX11_newLaw (wsX0_init) := ggX11_newLaw_X0_init
set_option maxRecDepth 20000 in
theorem ggX11_newLaw_X9_init : GoodIn wsX11_newLaw wsX9_init := goodIn_r _ [18, 19, 20, 21, 22, 23, 24, 25, 26, 27, 28, 29, 30, 31, 32, 33, 34, 35, 36, 37, 59, 60, 61, 62, 63, 64, 53, 54, 55, 56, 57, 58, 47, 48, 49, 50, 51, 52, 65, 66, 67, 68, 69, 70, 71, 72, 73] (by decide +kernel) (by decide +kernel)
set_option maxRecDepth 20000 in
theorem gX11_newLaw_X9_init : GoodIn wsX11_newLaw (wsX9_init) := ggX11_newLaw_X9_init
theorem dX11_newLaw_0 : decode cX11_newLaw 0 = .ok (.iload_n 0, 1) := by decide +kernel
theorem dX11_newLaw_1 : decode cX11_newLaw 1 = .ok (.tableswitch 58 1 3 #[27, 37, 48], 27) := by decide +kernel
theorem dX11_newLaw_28 : decode cX11_newLaw 28 = .ok (.new 212, 3) := by decide +kernel
theorem dX11_newLaw_31 : decode cX11_newLaw 31 = .ok (.dup, 1) := by decide +kernel
theorem dX11_newLaw_32 : decode cX11_newLaw 32 = .ok (.iload_n 1, 1) := by decide +kernel
theorem dX11_newLaw_33 : decode cX11_newLaw 33 = .ok (.iload_n 2, 1) := by decide +kernel
theorem dX11_newLaw_34 : decode cX11_newLaw 34 = .ok (.invokespecial 214, 3) := by decide +kernel
theorem dX11_newLaw_37 : decode cX11_newLaw 37 = .ok (.areturn, 1) := by decide +kernel
theorem dX11_newLaw_38 : decode cX11_newLaw 38 = .ok (.new 217, 3) := by decide +kernel
theorem dX11_newLaw_41 : decode cX11_newLaw 41 = .ok (.dup, 1) := by decide +kernel
theorem dX11_newLaw_42 : decode cX11_newLaw 42 = .ok (.iload_n 1, 1) := by decide +kernel
theorem dX11_newLaw_43 : decode cX11_newLaw 43 = .ok (.iload_n 2, 1) := by decide +kernel
theorem dX11_newLaw_44 : decode cX11_newLaw 44 = .ok (.iload_n 3, 1) := by decide +kernel
theorem dX11_newLaw_45 : decode cX11_newLaw 45 = .ok (.invokespecial 219, 3) := by decide +kernel
theorem dX11_newLaw_48 : decode cX11_newLaw 48 = .ok (.areturn, 1) := by decide +kernel
theorem dX11_newLaw_49 : decode cX11_newLaw 49 = .ok (.new 222, 3) := by decide +kernel
theorem dX11_newLaw_52 : decode cX11_newLaw 52 = .ok (.dup, 1) := by decide +kernel
theorem dX11_newLaw_53 : decode cX11_newLaw 53 = .ok (.iload_n 1, 1) := by decide +kernel
theorem dX11_newLaw_54 : decode cX11_newLaw 54 = .ok (.iload_n 2, 1) := by decide +kernel
theorem dX11_newLaw_55 : decode cX11_newLaw 55 = .ok (.invokespecial 224, 3) := by decide +kernel
theorem dX11_newLaw_58 : decode cX11_newLaw 58 = .ok (.areturn, 1) := by decide +kernel
theorem dX11_newLaw_59 : decode cX11_newLaw 59 = .ok (.new 31, 3) := by decide +kernel
theorem dX11_newLaw_62 : decode cX11_newLaw 62 = .ok (.dup, 1) := by decide +kernel
theorem dX11_newLaw_63 : decode cX11_newLaw 63 = .ok (.iload_n 1, 1) := by decide +kernel
theorem dX11_newLaw_64 : decode cX11_newLaw 64 = .ok (.iload_n 2, 1) := by decide +kernel
theorem dX11_newLaw_65 : decode cX11_newLaw 65 = .ok (.iload_n 3, 1) := by decide +kernel
theorem dX11_newLaw_66 : decode cX11_newLaw 66 = .ok (.invokespecial 225, 3) := by decide +kernel
theorem dX11_newLaw_69 : decode cX11_newLaw 69 = .ok (.areturn, 1) := by decide +kernel
set_option maxRecDepth 20000 in
theorem ggX11_firstAtMost_X9_lookAt : GoodIn wsX11_firstAtMost wsX9_lookAt := goodIn_r _ [7, 8, 9, 10, 11, 12, 13, 14, 15, 16, 17, 18, 19, 20, 21, 22, 23, 24, 25, 67, 68, 69, 70, 71, 72, 73, 74, 75, 76, 77, 78, 79, 80, 81, 82, 83, 84, 85, 86, 87, 88, 89, 90, 91, 92, 93] (by decide +kernel) (by decide +kernel)
set_option maxRecDepth 20000 in
theorem gX11_firstAtMost_X9_lookAt_u193X0 : GoodIn wsX11_firstAtMost (va_wsU RX11 193 RX0 "NightBook$Window" ⟨"NightBook$Window", "lookAt", "([II)V"⟩ yX9_lookAt wsX9_lookAt) := goodIn_app (goodIn_of _ (by decide +kernel)) ggX11_firstAtMost_X9_lookAt
set_option maxRecDepth 20000 in
theorem gX11_firstAtMost_X9_lookAt_u193X3 : GoodIn wsX11_firstAtMost (va_wsU RX11 193 RX3 "NightBook$Window" ⟨"NightBook$Window", "lookAt", "([II)V"⟩ yX9_lookAt wsX9_lookAt) := goodIn_app (goodIn_of _ (by decide +kernel)) ggX11_firstAtMost_X9_lookAt
set_option maxRecDepth 20000 in
theorem gX11_firstAtMost_X9_lookAt_u193X7 : GoodIn wsX11_firstAtMost (va_wsU RX11 193 RX7 "NightBook$Window" ⟨"NightBook$Window", "lookAt", "([II)V"⟩ yX9_lookAt wsX9_lookAt) := goodIn_app (goodIn_of _ (by decide +kernel)) ggX11_firstAtMost_X9_lookAt
set_option maxRecDepth 20000 in
theorem gX11_firstAtMost_X9_lookAt : GoodIn wsX11_firstAtMost (wsV RX11 193 RX9 yX9_lookAt wsX9_lookAt) := goodIn_app (goodIn_of _ (by decide +kernel)) ggX11_firstAtMost_X9_lookAt
set_option maxRecDepth 20000 in
theorem ggX11_firstAtMost_X9_moveTo : GoodIn wsX11_firstAtMost wsX9_moveTo := goodIn_r _ [34, 8, 9, 35, 22, 23, 13, 24, 25, 16, 15, 67, 68, 69, 70, 71, 72, 73, 74, 75, 76, 77, 78, 79, 80, 81, 82, 83, 84, 85, 86, 87, 88, 89, 90, 91, 92, 93] (by decide +kernel) (by decide +kernel)
set_option maxRecDepth 20000 in
theorem gX11_firstAtMost_X9_moveTo_u226X0 : GoodIn wsX11_firstAtMost (va_wsU RX11 226 RX0 "NightBook$Window" ⟨"NightBook$Window", "moveTo", "([II)V"⟩ yX9_moveTo wsX9_moveTo) := goodIn_app (goodIn_of _ (by decide +kernel)) ggX11_firstAtMost_X9_moveTo
set_option maxRecDepth 20000 in
theorem gX11_firstAtMost_X9_moveTo_u226X3 : GoodIn wsX11_firstAtMost (va_wsU RX11 226 RX3 "NightBook$Window" ⟨"NightBook$Window", "moveTo", "([II)V"⟩ yX9_moveTo wsX9_moveTo) := goodIn_app (goodIn_of _ (by decide +kernel)) ggX11_firstAtMost_X9_moveTo
set_option maxRecDepth 20000 in
theorem gX11_firstAtMost_X9_moveTo_u226X7 : GoodIn wsX11_firstAtMost (va_wsU RX11 226 RX7 "NightBook$Window" ⟨"NightBook$Window", "moveTo", "([II)V"⟩ yX9_moveTo wsX9_moveTo) := goodIn_app (goodIn_of _ (by decide +kernel)) ggX11_firstAtMost_X9_moveTo
set_option maxRecDepth 20000 in
theorem gX11_firstAtMost_X9_moveTo : GoodIn wsX11_firstAtMost (wsV RX11 226 RX9 yX9_moveTo wsX9_moveTo) := goodIn_app (goodIn_of _ (by decide +kernel)) ggX11_firstAtMost_X9_moveTo
set_option maxRecDepth 20000 in
theorem ggX11_firstAtMost_X0_verdict : GoodIn wsX11_firstAtMost wsX0_verdict := goodIn_r _ [46, 47, 48, 49, 50, 67, 68, 69, 70, 71, 72, 73, 74, 75, 76, 77, 78, 79, 80, 81, 82, 83, 84, 85, 86, 87, 88, 89, 90, 91, 92, 93] (by decide +kernel) (by decide +kernel)
set_option maxRecDepth 20000 in
theorem gX11_firstAtMost_X0_verdict_u200X0 : GoodIn wsX11_firstAtMost (va_wsO RX11 200 RX0 "NightBook$Window" ⟨"NightBook$Window", "verdict", "(LNightBook$Tally;I)I"⟩ yX0_verdict wsX0_verdict) := goodIn_app (goodIn_of _ (by decide +kernel)) ggX11_firstAtMost_X0_verdict
set_option maxRecDepth 20000 in
theorem ggX11_firstAtMost_X3_verdict : GoodIn wsX11_firstAtMost wsX3_verdict := goodIn_r _ [55, 56, 57, 58, 59, 91, 92, 93, 67, 68, 69, 70, 71, 72, 73, 74, 75, 76, 77, 78, 79, 80, 81, 82, 83, 84, 85, 86, 87, 88, 89, 90] (by decide +kernel) (by decide +kernel)
set_option maxRecDepth 20000 in
theorem gX11_firstAtMost_X3_verdict_u200X3 : GoodIn wsX11_firstAtMost (va_wsO RX11 200 RX3 "NightBook$Window" ⟨"NightBook$Window", "verdict", "(LNightBook$Tally;I)I"⟩ yX3_verdict wsX3_verdict) := goodIn_app (goodIn_of _ (by decide +kernel)) ggX11_firstAtMost_X3_verdict
set_option maxRecDepth 20000 in
theorem ggX11_firstAtMost_X9_verdict : GoodIn wsX11_firstAtMost wsX9_verdict := goodIn_r _ [51, 62, 63, 64, 91, 92, 93, 67, 68, 69, 70, 71, 72, 73, 74, 75, 76, 77, 78, 79, 80, 81, 82, 83, 84, 85, 86, 87, 88, 89, 90] (by decide +kernel) (by decide +kernel)
set_option maxRecDepth 20000 in
theorem gX11_firstAtMost_X9_verdict_u200X7 : GoodIn wsX11_firstAtMost (va_wsU RX11 200 RX7 "NightBook$Window" ⟨"NightBook$Window", "verdict", "(LNightBook$Tally;I)I"⟩ yX9_verdict wsX9_verdict) := goodIn_app (goodIn_of _ (by decide +kernel)) ggX11_firstAtMost_X9_verdict
set_option maxRecDepth 20000 in
theorem gX11_firstAtMost_X9_verdict : GoodIn wsX11_firstAtMost (wsV RX11 200 RX9 yX9_verdict wsX9_verdict) := goodIn_app (goodIn_of _ (by decide +kernel)) ggX11_firstAtMost_X9_verdict
theorem dX11_firstAtMost_0 : decode cX11_firstAtMost 0 = .ok (.aload_n 1, 1) := by decide +kernel
theorem dX11_firstAtMost_1 : decode cX11_firstAtMost 1 = .ok (.aload_n 2, 1) := by decide +kernel
theorem dX11_firstAtMost_2 : decode cX11_firstAtMost 2 = .ok (.iload_n 3, 1) := by decide +kernel
theorem dX11_firstAtMost_3 : decode cX11_firstAtMost 3 = .ok (.invokevirtual 193, 3) := by decide +kernel
theorem dX11_firstAtMost_6 : decode cX11_firstAtMost 6 = .ok (.iload_n 3, 1) := by decide +kernel
theorem dX11_firstAtMost_7 : decode cX11_firstAtMost 7 = .ok (.istore 4, 2) := by decide +kernel
theorem dX11_firstAtMost_9 : decode cX11_firstAtMost 9 = .ok (.iload 4, 2) := by decide +kernel
theorem dX11_firstAtMost_11 : decode cX11_firstAtMost 11 = .ok (.sipush 400, 3) := by decide +kernel
theorem dX11_firstAtMost_14 : decode cX11_firstAtMost 14 = .ok (.if_icmp .ge 39, 3) := by decide +kernel
theorem dX11_firstAtMost_17 : decode cX11_firstAtMost 17 = .ok (.iload 4, 2) := by decide +kernel
theorem dX11_firstAtMost_19 : decode cX11_firstAtMost 19 = .ok (.iload_n 3, 1) := by decide +kernel
theorem dX11_firstAtMost_20 : decode cX11_firstAtMost 20 = .ok (.if_icmp .le 10, 3) := by decide +kernel
theorem dX11_firstAtMost_23 : decode cX11_firstAtMost 23 = .ok (.aload_n 1, 1) := by decide +kernel
theorem dX11_firstAtMost_24 : decode cX11_firstAtMost 24 = .ok (.aload_n 2, 1) := by decide +kernel
theorem dX11_firstAtMost_25 : decode cX11_firstAtMost 25 = .ok (.iload 4, 2) := by decide +kernel
theorem dX11_firstAtMost_27 : decode cX11_firstAtMost 27 = .ok (.invokevirtual 226, 3) := by decide +kernel
theorem dX11_firstAtMost_30 : decode cX11_firstAtMost 30 = .ok (.aload_n 1, 1) := by decide +kernel
theorem dX11_firstAtMost_31 : decode cX11_firstAtMost 31 = .ok (.aload_n 1, 1) := by decide +kernel
theorem dX11_firstAtMost_32 : decode cX11_firstAtMost 32 = .ok (.getfield 196, 3) := by decide +kernel
theorem dX11_firstAtMost_35 : decode cX11_firstAtMost 35 = .ok (.iload 4, 2) := by decide +kernel
theorem dX11_firstAtMost_37 : decode cX11_firstAtMost 37 = .ok (.invokevirtual 200, 3) := by decide +kernel
theorem dX11_firstAtMost_40 : decode cX11_firstAtMost 40 = .ok (.iload_n 0, 1) := by decide +kernel
theorem dX11_firstAtMost_41 : decode cX11_firstAtMost 41 = .ok (.if_icmp .gt 6, 3) := by decide +kernel
theorem dX11_firstAtMost_44 : decode cX11_firstAtMost 44 = .ok (.iload 4, 2) := by decide +kernel
theorem dX11_firstAtMost_46 : decode cX11_firstAtMost 46 = .ok (.ireturn, 1) := by decide +kernel
theorem dX11_firstAtMost_47 : decode cX11_firstAtMost 47 = .ok (.iinc 4 1, 3) := by decide +kernel
theorem dX11_firstAtMost_50 : decode cX11_firstAtMost 50 = .ok (.goto (-41), 3) := by decide +kernel
theorem dX11_firstAtMost_53 : decode cX11_firstAtMost 53 = .ok (.bipush (-2), 2) := by decide +kernel
theorem dX11_firstAtMost_55 : decode cX11_firstAtMost 55 = .ok (.ireturn, 1) := by decide +kernel
set_option maxRecDepth 20000 in
theorem ggX11_travel_X11_landOfRest : GoodIn wsX11_travel wsX11_landOfRest := goodIn_r _ [13, 14, 15, 137, 138, 139, 140, 141, 142, 143, 144, 145, 146, 147, 148, 149, 150, 151, 152] (by decide +kernel) (by decide +kernel)
set_option maxRecDepth 20000 in
theorem gX11_travel_X11_landOfRest : GoodIn wsX11_travel (wsV RX11 229 RX11 yX11_landOfRest wsX11_landOfRest) := goodIn_app (goodIn_of _ (by decide +kernel)) ggX11_travel_X11_landOfRest
set_option maxRecDepth 20000 in
theorem ggX11_travel_J7_fill_fda19 : GoodIn wsX11_travel wsJ7_fill_fda19 := goodIn_r _ [19, 20, 21, 18, 22, 23, 24, 25, 153, 154, 155, 156] (by decide +kernel) (by decide +kernel)
set_option maxRecDepth 20000 in
theorem gX11_travel_J7_fill_fda19 : GoodIn wsX11_travel (va_wsS RX11 160 yJ7_fill_fda19 wsJ7_fill_fda19) := goodIn_app (goodIn_of _ (by decide +kernel)) ggX11_travel_J7_fill_fda19
set_option maxRecDepth 20000 in
theorem ggX11_travel_X9_lookAt : GoodIn wsX11_travel wsX9_lookAt := goodIn_r _ [31, 32, 33, 34, 35, 36, 37, 38, 39, 40, 41, 42, 43, 44, 45, 46, 47, 48, 49, 157, 158, 159, 160, 161, 162, 163, 164, 165, 166, 167, 168, 169, 170, 171, 172, 173, 174, 175, 176, 177, 178, 179, 180, 181, 182, 183] (by decide +kernel) (by decide +kernel)
set_option maxRecDepth 20000 in
theorem gX11_travel_X9_lookAt_u193X0 : GoodIn wsX11_travel (va_wsU RX11 193 RX0 "NightBook$Window" ⟨"NightBook$Window", "lookAt", "([II)V"⟩ yX9_lookAt wsX9_lookAt) := goodIn_app (goodIn_of _ (by decide +kernel)) ggX11_travel_X9_lookAt
set_option maxRecDepth 20000 in
theorem gX11_travel_X9_lookAt_u193X3 : GoodIn wsX11_travel (va_wsU RX11 193 RX3 "NightBook$Window" ⟨"NightBook$Window", "lookAt", "([II)V"⟩ yX9_lookAt wsX9_lookAt) := goodIn_app (goodIn_of _ (by decide +kernel)) ggX11_travel_X9_lookAt
set_option maxRecDepth 20000 in
theorem gX11_travel_X9_lookAt_u193X7 : GoodIn wsX11_travel (va_wsU RX11 193 RX7 "NightBook$Window" ⟨"NightBook$Window", "lookAt", "([II)V"⟩ yX9_lookAt wsX9_lookAt) := goodIn_app (goodIn_of _ (by decide +kernel)) ggX11_travel_X9_lookAt
set_option maxRecDepth 20000 in
theorem gX11_travel_X9_lookAt : GoodIn wsX11_travel (wsV RX11 193 RX9 yX9_lookAt wsX9_lookAt) := goodIn_app (goodIn_of _ (by decide +kernel)) ggX11_travel_X9_lookAt
set_option maxRecDepth 20000 in
theorem ggX11_travel_X9_lookAtEnd : GoodIn wsX11_travel wsX9_lookAtEnd := goodIn_r _ [58, 33, 59, 60, 34, 35, 36, 37, 38, 39, 40, 41, 42, 43, 44, 45, 46, 47, 48, 49, 157, 158, 159, 160, 161, 162, 163, 164, 165, 166, 167, 168, 169, 170, 171, 172, 173, 174, 175, 176, 177, 178, 179, 180, 181, 182, 183] (by decide +kernel) (by decide +kernel)
set_option maxRecDepth 20000 in
theorem gX11_travel_X9_lookAtEnd_u232X0 : GoodIn wsX11_travel (va_wsU RX11 232 RX0 "NightBook$Window" ⟨"NightBook$Window", "lookAtEnd", "([II)V"⟩ yX9_lookAtEnd wsX9_lookAtEnd) := goodIn_app (goodIn_of _ (by decide +kernel)) ggX11_travel_X9_lookAtEnd
set_option maxRecDepth 20000 in
theorem gX11_travel_X9_lookAtEnd_u232X3 : GoodIn wsX11_travel (va_wsU RX11 232 RX3 "NightBook$Window" ⟨"NightBook$Window", "lookAtEnd", "([II)V"⟩ yX9_lookAtEnd wsX9_lookAtEnd) := goodIn_app (goodIn_of _ (by decide +kernel)) ggX11_travel_X9_lookAtEnd
set_option maxRecDepth 20000 in
theorem gX11_travel_X9_lookAtEnd_u232X7 : GoodIn wsX11_travel (va_wsU RX11 232 RX7 "NightBook$Window" ⟨"NightBook$Window", "lookAtEnd", "([II)V"⟩ yX9_lookAtEnd wsX9_lookAtEnd) := goodIn_app (goodIn_of _ (by decide +kernel)) ggX11_travel_X9_lookAtEnd
set_option maxRecDepth 20000 in
theorem gX11_travel_X9_lookAtEnd : GoodIn wsX11_travel (wsV RX11 232 RX9 yX9_lookAtEnd wsX9_lookAtEnd) := goodIn_app (goodIn_of _ (by decide +kernel)) ggX11_travel_X9_lookAtEnd
set_option maxRecDepth 20000 in
theorem ggX11_travel_X11_takes : GoodIn wsX11_travel wsX11_takes := goodIn_r _ [68, 7, 8, 2, 69, 70, 71, 72, 30, 73, 32, 33, 74, 46, 47, 37, 48, 49, 40, 39, 75, 76, 77, 78, 79, 80, 81, 12, 82, 83, 84, 85, 86, 87, 59, 60, 88, 89, 90, 91, 92, 93, 94, 95, 96, 97, 98, 99, 100, 101, 102, 103, 104, 105, 106, 107, 108, 109, 110, 111, 112, 113, 114, 115, 116, 117, 118, 119, 120, 121, 122, 123, 124, 125, 126, 127, 128, 129, 130, 131, 132, 133, 134, 135, 136, 137, 138, 139, 140, 141, 142, 143, 144, 145, 146, 147, 148, 149, 150, 151, 152, 157, 158, 159, 160, 161, 162, 163, 164, 165, 166, 167, 168, 169, 170, 171, 172, 173, 174, 175, 176, 177, 178, 179, 180, 181, 182, 183] (by decide +kernel) (by decide +kernel)
set_option maxRecDepth 20000 in
theorem gX11_travel_X11_takes : GoodIn wsX11_travel (wsV RX11 235 RX11 yX11_takes wsX11_takes) := goodIn_app (goodIn_of _ (by decide +kernel)) ggX11_travel_X11_takes
theorem dX11_travel_0 : decode cX11_travel 0 = .ok (.iconst 1, 1) := by decide +kernel
theorem dX11_travel_1 : decode cX11_travel 1 = .ok (.iload_n 2, 1) := by decide +kernel
theorem dX11_travel_2 : decode cX11_travel 2 = .ok (.ishl, 1) := by decide +kernel
theorem dX11_travel_3 : decode cX11_travel 3 = .ok (.istore 5, 2) := by decide +kernel
theorem dX11_travel_5 : decode cX11_travel 5 = .ok (.iconst 1, 1) := by decide +kernel
theorem dX11_travel_6 : decode cX11_travel 6 = .ok (.aload_n 0, 1) := by decide +kernel
theorem dX11_travel_7 : decode cX11_travel 7 = .ok (.iload_n 1, 1) := by decide +kernel
theorem dX11_travel_8 : decode cX11_travel 8 = .ok (.iload_n 2, 1) := by decide +kernel
theorem dX11_travel_9 : decode cX11_travel 9 = .ok (.invokevirtual 229, 3) := by decide +kernel
theorem dX11_travel_12 : decode cX11_travel 12 = .ok (.ishl, 1) := by decide +kernel
theorem dX11_travel_13 : decode cX11_travel 13 = .ok (.istore 6, 2) := by decide +kernel
theorem dX11_travel_15 : decode cX11_travel 15 = .ok (.aload_n 0, 1) := by decide +kernel
theorem dX11_travel_16 : decode cX11_travel 16 = .ok (.getfield 22, 3) := by decide +kernel
theorem dX11_travel_19 : decode cX11_travel 19 = .ok (.iload_n 1, 1) := by decide +kernel
theorem dX11_travel_20 : decode cX11_travel 20 = .ok (.aaload, 1) := by decide +kernel
theorem dX11_travel_21 : decode cX11_travel 21 = .ok (.iconst 0, 1) := by decide +kernel
theorem dX11_travel_22 : decode cX11_travel 22 = .ok (.aload_n 0, 1) := by decide +kernel
theorem dX11_travel_23 : decode cX11_travel 23 = .ok (.getfield 64, 3) := by decide +kernel
theorem dX11_travel_26 : decode cX11_travel 26 = .ok (.iconst 0, 1) := by decide +kernel
theorem dX11_travel_27 : decode cX11_travel 27 = .ok (.sipush 400, 3) := by decide +kernel
theorem dX11_travel_30 : decode cX11_travel 30 = .ok (.invokestatic 171, 3) := by decide +kernel
theorem dX11_travel_33 : decode cX11_travel 33 = .ok (.aload_n 0, 1) := by decide +kernel
theorem dX11_travel_34 : decode cX11_travel 34 = .ok (.getfield 64, 3) := by decide +kernel
theorem dX11_travel_37 : decode cX11_travel 37 = .ok (.iload_n 3, 1) := by decide +kernel
theorem dX11_travel_38 : decode cX11_travel 38 = .ok (.iload 4, 2) := by decide +kernel
theorem dX11_travel_40 : decode cX11_travel 40 = .ok (.iconst 1, 1) := by decide +kernel
theorem dX11_travel_41 : decode cX11_travel 41 = .ok (.iadd, 1) := by decide +kernel
theorem dX11_travel_42 : decode cX11_travel 42 = .ok (.iload 6, 2) := by decide +kernel
theorem dX11_travel_44 : decode cX11_travel 44 = .ok (.invokestatic 160, 3) := by decide +kernel
theorem dX11_travel_47 : decode cX11_travel 47 = .ok (.iconst 0, 1) := by decide +kernel
theorem dX11_travel_48 : decode cX11_travel 48 = .ok (.istore 7, 2) := by decide +kernel
theorem dX11_travel_50 : decode cX11_travel 50 = .ok (.iload 7, 2) := by decide +kernel
theorem dX11_travel_52 : decode cX11_travel 52 = .ok (.aload_n 0, 1) := by decide +kernel
theorem dX11_travel_53 : decode cX11_travel 53 = .ok (.getfield 157, 3) := by decide +kernel
theorem dX11_travel_56 : decode cX11_travel 56 = .ok (.if_icmp .ge 46, 3) := by decide +kernel
theorem dX11_travel_59 : decode cX11_travel 59 = .ok (.aload_n 0, 1) := by decide +kernel
theorem dX11_travel_60 : decode cX11_travel 60 = .ok (.getfield 33, 3) := by decide +kernel
theorem dX11_travel_63 : decode cX11_travel 63 = .ok (.iload 7, 2) := by decide +kernel
theorem dX11_travel_65 : decode cX11_travel 65 = .ok (.aaload, 1) := by decide +kernel
theorem dX11_travel_66 : decode cX11_travel 66 = .ok (.astore 8, 2) := by decide +kernel
theorem dX11_travel_68 : decode cX11_travel 68 = .ok (.aload 8, 2) := by decide +kernel
theorem dX11_travel_70 : decode cX11_travel 70 = .ok (.ifnull 26, 3) := by decide +kernel
theorem dX11_travel_73 : decode cX11_travel 73 = .ok (.aload 8, 2) := by decide +kernel
theorem dX11_travel_75 : decode cX11_travel 75 = .ok (.aload_n 0, 1) := by decide +kernel
theorem dX11_travel_76 : decode cX11_travel 76 = .ok (.getfield 64, 3) := by decide +kernel
theorem dX11_travel_79 : decode cX11_travel 79 = .ok (.iload_n 3, 1) := by decide +kernel
theorem dX11_travel_80 : decode cX11_travel 80 = .ok (.iconst 1, 1) := by decide +kernel
theorem dX11_travel_81 : decode cX11_travel 81 = .ok (.isub, 1) := by decide +kernel
theorem dX11_travel_82 : decode cX11_travel 82 = .ok (.invokevirtual 193, 3) := by decide +kernel
theorem dX11_travel_85 : decode cX11_travel 85 = .ok (.aload 8, 2) := by decide +kernel
theorem dX11_travel_87 : decode cX11_travel 87 = .ok (.aload_n 0, 1) := by decide +kernel
theorem dX11_travel_88 : decode cX11_travel 88 = .ok (.getfield 64, 3) := by decide +kernel
theorem dX11_travel_91 : decode cX11_travel 91 = .ok (.iload 4, 2) := by decide +kernel
theorem dX11_travel_93 : decode cX11_travel 93 = .ok (.invokevirtual 232, 3) := by decide +kernel
theorem dX11_travel_96 : decode cX11_travel 96 = .ok (.iinc 7 1, 3) := by decide +kernel
theorem dX11_travel_99 : decode cX11_travel 99 = .ok (.goto (-49), 3) := by decide +kernel
theorem dX11_travel_102 : decode cX11_travel 102 = .ok (.iconst 0, 1) := by decide +kernel
theorem dX11_travel_103 : decode cX11_travel 103 = .ok (.istore 7, 2) := by decide +kernel
theorem dX11_travel_105 : decode cX11_travel 105 = .ok (.iload_n 3, 1) := by decide +kernel
theorem dX11_travel_106 : decode cX11_travel 106 = .ok (.istore 8, 2) := by decide +kernel
theorem dX11_travel_108 : decode cX11_travel 108 = .ok (.iload 8, 2) := by decide +kernel
theorem dX11_travel_110 : decode cX11_travel 110 = .ok (.iload 4, 2) := by decide +kernel
theorem dX11_travel_112 : decode cX11_travel 112 = .ok (.if_icmp .gt 27, 3) := by decide +kernel
theorem dX11_travel_115 : decode cX11_travel 115 = .ok (.aload_n 0, 1) := by decide +kernel
theorem dX11_travel_116 : decode cX11_travel 116 = .ok (.iload 8, 2) := by decide +kernel
theorem dX11_travel_118 : decode cX11_travel 118 = .ok (.iload 4, 2) := by decide +kernel
theorem dX11_travel_120 : decode cX11_travel 120 = .ok (.iload 6, 2) := by decide +kernel
theorem dX11_travel_122 : decode cX11_travel 122 = .ok (.iload 5, 2) := by decide +kernel
theorem dX11_travel_124 : decode cX11_travel 124 = .ok (.invokevirtual 235, 3) := by decide +kernel
theorem dX11_travel_127 : decode cX11_travel 127 = .ok (.ifCond .eq 6, 3) := by decide +kernel
theorem dX11_travel_130 : decode cX11_travel 130 = .ok (.iinc 7 1, 3) := by decide +kernel
theorem dX11_travel_133 : decode cX11_travel 133 = .ok (.iinc 8 1, 3) := by decide +kernel
theorem dX11_travel_136 : decode cX11_travel 136 = .ok (.goto (-28), 3) := by decide +kernel
theorem dX11_travel_139 : decode cX11_travel 139 = .ok (.iload 7, 2) := by decide +kernel
theorem dX11_travel_141 : decode cX11_travel 141 = .ok (.ireturn, 1) := by decide +kernel
theorem dX11_landOfRest_0 : decode cX11_landOfRest 0 = .ok (.aload_n 0, 1) := by decide +kernel
theorem dX11_landOfRest_1 : decode cX11_landOfRest 1 = .ok (.getfield 9, 3) := by decide +kernel
theorem dX11_landOfRest_4 : decode cX11_landOfRest 4 = .ok (.iload_n 1, 1) := by decide +kernel
theorem dX11_landOfRest_5 : decode cX11_landOfRest 5 = .ok (.iaload, 1) := by decide +kernel
theorem dX11_landOfRest_6 : decode cX11_landOfRest 6 = .ok (.iload_n 2, 1) := by decide +kernel
theorem dX11_landOfRest_7 : decode cX11_landOfRest 7 = .ok (.if_icmp .eq 10, 3) := by decide +kernel
theorem dX11_landOfRest_10 : decode cX11_landOfRest 10 = .ok (.aload_n 0, 1) := by decide +kernel
theorem dX11_landOfRest_11 : decode cX11_landOfRest 11 = .ok (.getfield 9, 3) := by decide +kernel
theorem dX11_landOfRest_14 : decode cX11_landOfRest 14 = .ok (.iload_n 1, 1) := by decide +kernel
theorem dX11_landOfRest_15 : decode cX11_landOfRest 15 = .ok (.iaload, 1) := by decide +kernel
theorem dX11_landOfRest_16 : decode cX11_landOfRest 16 = .ok (.ireturn, 1) := by decide +kernel
theorem dX11_landOfRest_17 : decode cX11_landOfRest 17 = .ok (.aload_n 0, 1) := by decide +kernel
theorem dX11_landOfRest_18 : decode cX11_landOfRest 18 = .ok (.getfield 13, 3) := by decide +kernel
theorem dX11_landOfRest_21 : decode cX11_landOfRest 21 = .ok (.iload_n 1, 1) := by decide +kernel
theorem dX11_landOfRest_22 : decode cX11_landOfRest 22 = .ok (.iaload, 1) := by decide +kernel
theorem dX11_landOfRest_23 : decode cX11_landOfRest 23 = .ok (.iload_n 2, 1) := by decide +kernel
theorem dX11_landOfRest_24 : decode cX11_landOfRest 24 = .ok (.if_icmp .eq 10, 3) := by decide +kernel
theorem dX11_landOfRest_27 : decode cX11_landOfRest 27 = .ok (.aload_n 0, 1) := by decide +kernel
theorem dX11_landOfRest_28 : decode cX11_landOfRest 28 = .ok (.getfield 13, 3) := by decide +kernel
theorem dX11_landOfRest_31 : decode cX11_landOfRest 31 = .ok (.iload_n 1, 1) := by decide +kernel
theorem dX11_landOfRest_32 : decode cX11_landOfRest 32 = .ok (.iaload, 1) := by decide +kernel
theorem dX11_landOfRest_33 : decode cX11_landOfRest 33 = .ok (.ireturn, 1) := by decide +kernel
theorem dX11_landOfRest_34 : decode cX11_landOfRest 34 = .ok (.iload_n 2, 1) := by decide +kernel
theorem dX11_landOfRest_35 : decode cX11_landOfRest 35 = .ok (.ifCond .ne 7, 3) := by decide +kernel
theorem dX11_landOfRest_38 : decode cX11_landOfRest 38 = .ok (.iconst 1, 1) := by decide +kernel
theorem dX11_landOfRest_39 : decode cX11_landOfRest 39 = .ok (.goto 4, 3) := by decide +kernel
theorem dX11_landOfRest_42 : decode cX11_landOfRest 42 = .ok (.iconst 0, 1) := by decide +kernel
theorem dX11_landOfRest_43 : decode cX11_landOfRest 43 = .ok (.ireturn, 1) := by decide +kernel
set_option maxRecDepth 20000 in
theorem ggX11_takes_X9_moveTo : GoodIn wsX11_takes wsX9_moveTo := goodIn_r _ [9, 10, 11, 12, 13, 14, 15, 16, 17, 18, 19, 101, 102, 103, 104, 105, 106, 107, 108, 109, 110, 111, 112, 113, 114, 115, 116, 117, 118, 119, 120, 121, 122, 123, 124, 125, 126, 127] (by decide +kernel) (by decide +kernel)
set_option maxRecDepth 20000 in
theorem gX11_takes_X9_moveTo_u226X0 : GoodIn wsX11_takes (va_wsU RX11 226 RX0 "NightBook$Window" ⟨"NightBook$Window", "moveTo", "([II)V"⟩ yX9_moveTo wsX9_moveTo) := goodIn_app (goodIn_of _ (by decide +kernel)) ggX11_takes_X9_moveTo
set_option maxRecDepth 20000 in
theorem gX11_takes_X9_moveTo_u226X3 : GoodIn wsX11_takes (va_wsU RX11 226 RX3 "NightBook$Window" ⟨"NightBook$Window", "moveTo", "([II)V"⟩ yX9_moveTo wsX9_moveTo) := goodIn_app (goodIn_of _ (by decide +kernel)) ggX11_takes_X9_moveTo
set_option maxRecDepth 20000 in
theorem gX11_takes_X9_moveTo_u226X7 : GoodIn wsX11_takes (va_wsU RX11 226 RX7 "NightBook$Window" ⟨"NightBook$Window", "moveTo", "([II)V"⟩ yX9_moveTo wsX9_moveTo) := goodIn_app (goodIn_of _ (by decide +kernel)) ggX11_takes_X9_moveTo
set_option maxRecDepth 20000 in
theorem gX11_takes_X9_moveTo : GoodIn wsX11_takes (wsV RX11 226 RX9 yX9_moveTo wsX9_moveTo) := goodIn_app (goodIn_of _ (by decide +kernel)) ggX11_takes_X9_moveTo
set_option maxRecDepth 20000 in
theorem ggX11_takes_X11_change : GoodIn wsX11_takes wsX11_change := goodIn_r _ [28, 3, 1, 2, 29, 30, 31, 32, 8, 33, 10, 34, 35, 12, 13, 14, 15, 16, 17, 18, 19, 36, 37, 38, 39, 85, 86, 87, 88, 89, 90, 91, 92, 93, 94, 95, 96, 97, 98, 99, 100, 101, 102, 103, 104, 105, 106, 107, 108, 109, 110, 111, 112, 113, 114, 115, 116, 117, 118, 119, 120, 121, 122, 123, 124, 125, 126, 127] (by decide +kernel) (by decide +kernel)
set_option maxRecDepth 20000 in
theorem gX11_takes_X11_change : GoodIn wsX11_takes (wsV RX11 238 RX11 yX11_change wsX11_change) := goodIn_app (goodIn_of _ (by decide +kernel)) ggX11_takes_X11_change
set_option maxRecDepth 20000 in
theorem ggX11_takes_X11_areSurelyKept : GoodIn wsX11_takes wsX11_areSurelyKept := goodIn_r _ [43, 1, 2, 44, 45, 46, 47, 48, 49, 8, 50, 51, 52, 53, 54, 55, 56, 57, 58, 59, 60, 61, 62, 63, 64, 65, 66, 67, 68, 69, 70, 71, 72, 73, 74, 75, 76, 77, 78, 79, 80, 81, 82, 83, 84, 85, 86, 87, 88, 89, 90, 91, 92, 93, 94, 95, 96, 97, 98, 99, 100, 101, 102, 103, 104, 105, 106, 107, 108, 109, 110, 111, 112, 113, 114, 115, 116, 117, 118, 119, 120, 121, 122, 123, 124, 125, 126, 127] (by decide +kernel) (by decide +kernel)
set_option maxRecDepth 20000 in
theorem gX11_takes_X11_areSurelyKept : GoodIn wsX11_takes (wsV RX11 241 RX11 yX11_areSurelyKept wsX11_areSurelyKept) := goodIn_app (goodIn_of _ (by decide +kernel)) ggX11_takes_X11_areSurelyKept
theorem dX11_takes_0 : decode cX11_takes 0 = .ok (.iconst 0, 1) := by decide +kernel
theorem dX11_takes_1 : decode cX11_takes 1 = .ok (.istore 5, 2) := by decide +kernel
theorem dX11_takes_3 : decode cX11_takes 3 = .ok (.iload 5, 2) := by decide +kernel
theorem dX11_takes_5 : decode cX11_takes 5 = .ok (.aload_n 0, 1) := by decide +kernel
theorem dX11_takes_6 : decode cX11_takes 6 = .ok (.getfield 157, 3) := by decide +kernel
theorem dX11_takes_9 : decode cX11_takes 9 = .ok (.if_icmp .ge 33, 3) := by decide +kernel
theorem dX11_takes_12 : decode cX11_takes 12 = .ok (.aload_n 0, 1) := by decide +kernel
theorem dX11_takes_13 : decode cX11_takes 13 = .ok (.getfield 33, 3) := by decide +kernel
theorem dX11_takes_16 : decode cX11_takes 16 = .ok (.iload 5, 2) := by decide +kernel
theorem dX11_takes_18 : decode cX11_takes 18 = .ok (.aaload, 1) := by decide +kernel
theorem dX11_takes_19 : decode cX11_takes 19 = .ok (.astore 6, 2) := by decide +kernel
theorem dX11_takes_21 : decode cX11_takes 21 = .ok (.aload 6, 2) := by decide +kernel
theorem dX11_takes_23 : decode cX11_takes 23 = .ok (.ifnull 13, 3) := by decide +kernel
theorem dX11_takes_26 : decode cX11_takes 26 = .ok (.aload 6, 2) := by decide +kernel
theorem dX11_takes_28 : decode cX11_takes 28 = .ok (.aload_n 0, 1) := by decide +kernel
theorem dX11_takes_29 : decode cX11_takes 29 = .ok (.getfield 64, 3) := by decide +kernel
theorem dX11_takes_32 : decode cX11_takes 32 = .ok (.iload_n 1, 1) := by decide +kernel
theorem dX11_takes_33 : decode cX11_takes 33 = .ok (.invokevirtual 226, 3) := by decide +kernel
theorem dX11_takes_36 : decode cX11_takes 36 = .ok (.iinc 5 1, 3) := by decide +kernel
theorem dX11_takes_39 : decode cX11_takes 39 = .ok (.goto (-36), 3) := by decide +kernel
theorem dX11_takes_42 : decode cX11_takes 42 = .ok (.aload_n 0, 1) := by decide +kernel
theorem dX11_takes_43 : decode cX11_takes 43 = .ok (.iload_n 1, 1) := by decide +kernel
theorem dX11_takes_44 : decode cX11_takes 44 = .ok (.iload_n 3, 1) := by decide +kernel
theorem dX11_takes_45 : decode cX11_takes 45 = .ok (.iload 4, 2) := by decide +kernel
theorem dX11_takes_47 : decode cX11_takes 47 = .ok (.invokevirtual 238, 3) := by decide +kernel
theorem dX11_takes_50 : decode cX11_takes 50 = .ok (.aload_n 0, 1) := by decide +kernel
theorem dX11_takes_51 : decode cX11_takes 51 = .ok (.iload_n 1, 1) := by decide +kernel
theorem dX11_takes_52 : decode cX11_takes 52 = .ok (.iload_n 2, 1) := by decide +kernel
theorem dX11_takes_53 : decode cX11_takes 53 = .ok (.invokevirtual 241, 3) := by decide +kernel
theorem dX11_takes_56 : decode cX11_takes 56 = .ok (.ifCond .eq 5, 3) := by decide +kernel
theorem dX11_takes_59 : decode cX11_takes 59 = .ok (.iconst 1, 1) := by decide +kernel
theorem dX11_takes_60 : decode cX11_takes 60 = .ok (.ireturn, 1) := by decide +kernel
theorem dX11_takes_61 : decode cX11_takes 61 = .ok (.aload_n 0, 1) := by decide +kernel
theorem dX11_takes_62 : decode cX11_takes 62 = .ok (.iload_n 1, 1) := by decide +kernel
theorem dX11_takes_63 : decode cX11_takes 63 = .ok (.iload 4, 2) := by decide +kernel
theorem dX11_takes_65 : decode cX11_takes 65 = .ok (.iload_n 3, 1) := by decide +kernel
theorem dX11_takes_66 : decode cX11_takes 66 = .ok (.invokevirtual 238, 3) := by decide +kernel
theorem dX11_takes_69 : decode cX11_takes 69 = .ok (.iconst 0, 1) := by decide +kernel
theorem dX11_takes_70 : decode cX11_takes 70 = .ok (.ireturn, 1) := by decide +kernel
set_option maxRecDepth 20000 in
theorem ggX11_change_X9_change : GoodIn wsX11_change wsX9_change := goodIn_r _ [9, 10, 11, 12, 13, 14, 15, 16, 17, 18, 19, 20, 41, 42, 43, 44, 45, 46, 47, 48, 49, 50, 51, 52, 53, 54, 55, 56, 57, 58, 59, 60, 61, 62, 63, 64, 65, 66, 67] (by decide +kernel) (by decide +kernel)
set_option maxRecDepth 20000 in
theorem gX11_change_X9_change_u244X0 : GoodIn wsX11_change (va_wsU RX11 244 RX0 "NightBook$Window" ⟨"NightBook$Window", "change", "(III)V"⟩ yX9_change wsX9_change) := goodIn_app (goodIn_of _ (by decide +kernel)) ggX11_change_X9_change
set_option maxRecDepth 20000 in
theorem gX11_change_X9_change_u244X3 : GoodIn wsX11_change (va_wsU RX11 244 RX3 "NightBook$Window" ⟨"NightBook$Window", "change", "(III)V"⟩ yX9_change wsX9_change) := goodIn_app (goodIn_of _ (by decide +kernel)) ggX11_change_X9_change
set_option maxRecDepth 20000 in
theorem gX11_change_X9_change_u244X7 : GoodIn wsX11_change (va_wsU RX11 244 RX7 "NightBook$Window" ⟨"NightBook$Window", "change", "(III)V"⟩ yX9_change wsX9_change) := goodIn_app (goodIn_of _ (by decide +kernel)) ggX11_change_X9_change
set_option maxRecDepth 20000 in
theorem gX11_change_X9_change : GoodIn wsX11_change (wsV RX11 244 RX9 yX9_change wsX9_change) := goodIn_app (goodIn_of _ (by decide +kernel)) ggX11_change_X9_change
theorem dX11_change_0 : decode cX11_change 0 = .ok (.aload_n 0, 1) := by decide +kernel
theorem dX11_change_1 : decode cX11_change 1 = .ok (.getfield 64, 3) := by decide +kernel
theorem dX11_change_4 : decode cX11_change 4 = .ok (.iload_n 1, 1) := by decide +kernel
theorem dX11_change_5 : decode cX11_change 5 = .ok (.iload_n 3, 1) := by decide +kernel
theorem dX11_change_6 : decode cX11_change 6 = .ok (.iastore, 1) := by decide +kernel
theorem dX11_change_7 : decode cX11_change 7 = .ok (.iconst 0, 1) := by decide +kernel
theorem dX11_change_8 : decode cX11_change 8 = .ok (.istore 4, 2) := by decide +kernel
theorem dX11_change_10 : decode cX11_change 10 = .ok (.iload 4, 2) := by decide +kernel
theorem dX11_change_12 : decode cX11_change 12 = .ok (.aload_n 0, 1) := by decide +kernel
theorem dX11_change_13 : decode cX11_change 13 = .ok (.getfield 157, 3) := by decide +kernel
theorem dX11_change_16 : decode cX11_change 16 = .ok (.if_icmp .ge 31, 3) := by decide +kernel
theorem dX11_change_19 : decode cX11_change 19 = .ok (.aload_n 0, 1) := by decide +kernel
theorem dX11_change_20 : decode cX11_change 20 = .ok (.getfield 33, 3) := by decide +kernel
theorem dX11_change_23 : decode cX11_change 23 = .ok (.iload 4, 2) := by decide +kernel
theorem dX11_change_25 : decode cX11_change 25 = .ok (.aaload, 1) := by decide +kernel
theorem dX11_change_26 : decode cX11_change 26 = .ok (.astore 5, 2) := by decide +kernel
theorem dX11_change_28 : decode cX11_change 28 = .ok (.aload 5, 2) := by decide +kernel
theorem dX11_change_30 : decode cX11_change 30 = .ok (.ifnull 11, 3) := by decide +kernel
theorem dX11_change_33 : decode cX11_change 33 = .ok (.aload 5, 2) := by decide +kernel
theorem dX11_change_35 : decode cX11_change 35 = .ok (.iload_n 1, 1) := by decide +kernel
theorem dX11_change_36 : decode cX11_change 36 = .ok (.iload_n 2, 1) := by decide +kernel
theorem dX11_change_37 : decode cX11_change 37 = .ok (.iload_n 3, 1) := by decide +kernel
theorem dX11_change_38 : decode cX11_change 38 = .ok (.invokevirtual 244, 3) := by decide +kernel
theorem dX11_change_41 : decode cX11_change 41 = .ok (.iinc 4 1, 3) := by decide +kernel
theorem dX11_change_44 : decode cX11_change 44 = .ok (.goto (-34), 3) := by decide +kernel
theorem dX11_change_47 : decode cX11_change 47 = .ok (.return_, 1) := by decide +kernel
set_option maxRecDepth 20000 in
theorem ggX11_areSurelyKept_X9_bindsTrips : GoodIn wsX11_areSurelyKept wsX9_bindsTrips := goodIn_r _ [10] (by decide +kernel) (by decide +kernel)
set_option maxRecDepth 20000 in
theorem gX11_areSurelyKept_X9_bindsTrips_u245X0 : GoodIn wsX11_areSurelyKept (va_wsU RX11 245 RX0 "NightBook$Window" ⟨"NightBook$Window", "bindsTrips", "()Z"⟩ yX9_bindsTrips wsX9_bindsTrips) := goodIn_app (goodIn_of _ (by decide +kernel)) ggX11_areSurelyKept_X9_bindsTrips
set_option maxRecDepth 20000 in
theorem ggX11_areSurelyKept_X3_bindsTrips : GoodIn wsX11_areSurelyKept wsX3_bindsTrips := goodIn_r _ [15] (by decide +kernel) (by decide +kernel)
set_option maxRecDepth 20000 in
theorem gX11_areSurelyKept_X3_bindsTrips_u245X3 : GoodIn wsX11_areSurelyKept (va_wsO RX11 245 RX3 "NightBook$Window" ⟨"NightBook$Window", "bindsTrips", "()Z"⟩ yX3_bindsTrips wsX3_bindsTrips) := goodIn_app (goodIn_of _ (by decide +kernel)) ggX11_areSurelyKept_X3_bindsTrips
set_option maxRecDepth 20000 in
theorem gX11_areSurelyKept_X9_bindsTrips_u245X7 : GoodIn wsX11_areSurelyKept (va_wsU RX11 245 RX7 "NightBook$Window" ⟨"NightBook$Window", "bindsTrips", "()Z"⟩ yX9_bindsTrips wsX9_bindsTrips) := goodIn_app (goodIn_of _ (by decide +kernel)) ggX11_areSurelyKept_X9_bindsTrips
set_option maxRecDepth 20000 in
theorem gX11_areSurelyKept_X9_bindsTrips : GoodIn wsX11_areSurelyKept (wsV RX11 245 RX9 yX9_bindsTrips wsX9_bindsTrips) := goodIn_app (goodIn_of _ (by decide +kernel)) ggX11_areSurelyKept_X9_bindsTrips
set_option maxRecDepth 20000 in
theorem ggX11_areSurelyKept_X0_verdict : GoodIn wsX11_areSurelyKept wsX0_verdict := goodIn_r _ [25, 26, 27, 28, 29, 61, 62, 63, 64, 65, 66, 67, 68, 69, 70, 71, 72, 73, 74, 75, 76, 77, 78, 79, 80, 81, 82, 83, 84, 85, 86, 87] (by decide +kernel) (by decide +kernel)
set_option maxRecDepth 20000 in
theorem gX11_areSurelyKept_X0_verdict_u200X0 : GoodIn wsX11_areSurelyKept (va_wsO RX11 200 RX0 "NightBook$Window" ⟨"NightBook$Window", "verdict", "(LNightBook$Tally;I)I"⟩ yX0_verdict wsX0_verdict) := goodIn_app (goodIn_of _ (by decide +kernel)) ggX11_areSurelyKept_X0_verdict
set_option maxRecDepth 20000 in
theorem ggX11_areSurelyKept_X3_verdict : GoodIn wsX11_areSurelyKept wsX3_verdict := goodIn_r _ [33, 34, 35, 36, 37, 85, 86, 87, 61, 62, 63, 64, 65, 66, 67, 68, 69, 70, 71, 72, 73, 74, 75, 76, 77, 78, 79, 80, 81, 82, 83, 84] (by decide +kernel) (by decide +kernel)
set_option maxRecDepth 20000 in
theorem gX11_areSurelyKept_X3_verdict_u200X3 : GoodIn wsX11_areSurelyKept (va_wsO RX11 200 RX3 "NightBook$Window" ⟨"NightBook$Window", "verdict", "(LNightBook$Tally;I)I"⟩ yX3_verdict wsX3_verdict) := goodIn_app (goodIn_of _ (by decide +kernel)) ggX11_areSurelyKept_X3_verdict
set_option maxRecDepth 20000 in
theorem ggX11_areSurelyKept_X9_verdict : GoodIn wsX11_areSurelyKept wsX9_verdict := goodIn_r _ [30, 40, 41, 42, 85, 86, 87, 61, 62, 63, 64, 65, 66, 67, 68, 69, 70, 71, 72, 73, 74, 75, 76, 77, 78, 79, 80, 81, 82, 83, 84] (by decide +kernel) (by decide +kernel)
set_option maxRecDepth 20000 in
theorem gX11_areSurelyKept_X9_verdict_u200X7 : GoodIn wsX11_areSurelyKept (va_wsU RX11 200 RX7 "NightBook$Window" ⟨"NightBook$Window", "verdict", "(LNightBook$Tally;I)I"⟩ yX9_verdict wsX9_verdict) := goodIn_app (goodIn_of _ (by decide +kernel)) ggX11_areSurelyKept_X9_verdict
set_option maxRecDepth 20000 in
theorem gX11_areSurelyKept_X9_verdict : GoodIn wsX11_areSurelyKept (wsV RX11 200 RX9 yX9_verdict wsX9_verdict) := goodIn_app (goodIn_of _ (by decide +kernel)) ggX11_areSurelyKept_X9_verdict
theorem dX11_areSurelyKept_0 : decode cX11_areSurelyKept 0 = .ok (.iconst 0, 1) := by decide +kernel
theorem dX11_areSurelyKept_1 : decode cX11_areSurelyKept 1 = .ok (.istore_n 3, 1) := by decide +kernel
theorem dX11_areSurelyKept_2 : decode cX11_areSurelyKept 2 = .ok (.iload_n 3, 1) := by decide +kernel
theorem dX11_areSurelyKept_3 : decode cX11_areSurelyKept 3 = .ok (.aload_n 0, 1) := by decide +kernel
theorem dX11_areSurelyKept_4 : decode cX11_areSurelyKept 4 = .ok (.getfield 157, 3) := by decide +kernel
theorem dX11_areSurelyKept_7 : decode cX11_areSurelyKept 7 = .ok (.if_icmp .ge 62, 3) := by decide +kernel
theorem dX11_areSurelyKept_10 : decode cX11_areSurelyKept 10 = .ok (.aload_n 0, 1) := by decide +kernel
theorem dX11_areSurelyKept_11 : decode cX11_areSurelyKept 11 = .ok (.getfield 33, 3) := by decide +kernel
theorem dX11_areSurelyKept_14 : decode cX11_areSurelyKept 14 = .ok (.iload_n 3, 1) := by decide +kernel
theorem dX11_areSurelyKept_15 : decode cX11_areSurelyKept 15 = .ok (.aaload, 1) := by decide +kernel
theorem dX11_areSurelyKept_16 : decode cX11_areSurelyKept 16 = .ok (.astore 4, 2) := by decide +kernel
theorem dX11_areSurelyKept_18 : decode cX11_areSurelyKept 18 = .ok (.aload 4, 2) := by decide +kernel
theorem dX11_areSurelyKept_20 : decode cX11_areSurelyKept 20 = .ok (.ifnull 43, 3) := by decide +kernel
theorem dX11_areSurelyKept_23 : decode cX11_areSurelyKept 23 = .ok (.aload 4, 2) := by decide +kernel
theorem dX11_areSurelyKept_25 : decode cX11_areSurelyKept 25 = .ok (.invokevirtual 245, 3) := by decide +kernel
theorem dX11_areSurelyKept_28 : decode cX11_areSurelyKept 28 = .ok (.ifCond .eq 35, 3) := by decide +kernel
theorem dX11_areSurelyKept_31 : decode cX11_areSurelyKept 31 = .ok (.aload 4, 2) := by decide +kernel
theorem dX11_areSurelyKept_33 : decode cX11_areSurelyKept 33 = .ok (.aload 4, 2) := by decide +kernel
theorem dX11_areSurelyKept_35 : decode cX11_areSurelyKept 35 = .ok (.getfield 196, 3) := by decide +kernel
theorem dX11_areSurelyKept_38 : decode cX11_areSurelyKept 38 = .ok (.iload_n 1, 1) := by decide +kernel
theorem dX11_areSurelyKept_39 : decode cX11_areSurelyKept 39 = .ok (.invokevirtual 200, 3) := by decide +kernel
theorem dX11_areSurelyKept_42 : decode cX11_areSurelyKept 42 = .ok (.iconst 2, 1) := by decide +kernel
theorem dX11_areSurelyKept_43 : decode cX11_areSurelyKept 43 = .ok (.if_icmp .ne 18, 3) := by decide +kernel
theorem dX11_areSurelyKept_46 : decode cX11_areSurelyKept 46 = .ok (.aload 4, 2) := by decide +kernel
theorem dX11_areSurelyKept_48 : decode cX11_areSurelyKept 48 = .ok (.aload 4, 2) := by decide +kernel
theorem dX11_areSurelyKept_50 : decode cX11_areSurelyKept 50 = .ok (.getfield 248, 3) := by decide +kernel
theorem dX11_areSurelyKept_53 : decode cX11_areSurelyKept 53 = .ok (.iload_n 2, 1) := by decide +kernel
theorem dX11_areSurelyKept_54 : decode cX11_areSurelyKept 54 = .ok (.invokevirtual 200, 3) := by decide +kernel
theorem dX11_areSurelyKept_57 : decode cX11_areSurelyKept 57 = .ok (.iconst 2, 1) := by decide +kernel
theorem dX11_areSurelyKept_58 : decode cX11_areSurelyKept 58 = .ok (.if_icmp .eq 5, 3) := by decide +kernel
theorem dX11_areSurelyKept_61 : decode cX11_areSurelyKept 61 = .ok (.iconst 0, 1) := by decide +kernel
theorem dX11_areSurelyKept_62 : decode cX11_areSurelyKept 62 = .ok (.ireturn, 1) := by decide +kernel
theorem dX11_areSurelyKept_63 : decode cX11_areSurelyKept 63 = .ok (.iinc 3 1, 3) := by decide +kernel
theorem dX11_areSurelyKept_66 : decode cX11_areSurelyKept 66 = .ok (.goto (-64), 3) := by decide +kernel
theorem dX11_areSurelyKept_69 : decode cX11_areSurelyKept 69 = .ok (.iconst 1, 1) := by decide +kernel
theorem dX11_areSurelyKept_70 : decode cX11_areSurelyKept 70 = .ok (.ireturn, 1) := by decide +kernel
set_option maxRecDepth 20000 in
theorem ggX11_claim_X11_isLand : GoodIn wsX11_claim wsX11_isLand := goodIn_r _ [5] (by decide +kernel) (by decide +kernel)
set_option maxRecDepth 20000 in
theorem gX11_claim_X11_isLand : GoodIn wsX11_claim (va_wsS RX11 70 yX11_isLand wsX11_isLand) := goodIn_app (goodIn_of _ (by decide +kernel)) ggX11_claim_X11_isLand
theorem dX11_claim_0 : decode cX11_claim 0 = .ok (.iload_n 1, 1) := by decide +kernel
theorem dX11_claim_1 : decode cX11_claim 1 = .ok (.invokestatic 70, 3) := by decide +kernel
theorem dX11_claim_4 : decode cX11_claim 4 = .ok (.ifCond .eq 14, 3) := by decide +kernel
theorem dX11_claim_7 : decode cX11_claim 7 = .ok (.iload_n 2, 1) := by decide +kernel
theorem dX11_claim_8 : decode cX11_claim 8 = .ok (.iconst 1, 1) := by decide +kernel
theorem dX11_claim_9 : decode cX11_claim 9 = .ok (.if_icmp .lt 9, 3) := by decide +kernel
theorem dX11_claim_12 : decode cX11_claim 12 = .ok (.iload_n 2, 1) := by decide +kernel
theorem dX11_claim_13 : decode cX11_claim 13 = .ok (.bipush 100, 2) := by decide +kernel
theorem dX11_claim_15 : decode cX11_claim 15 = .ok (.if_icmp .le 5, 3) := by decide +kernel
theorem dX11_claim_18 : decode cX11_claim 18 = .ok (.iconst (-1), 1) := by decide +kernel
theorem dX11_claim_19 : decode cX11_claim 19 = .ok (.ireturn, 1) := by decide +kernel
theorem dX11_claim_20 : decode cX11_claim 20 = .ok (.aload_n 0, 1) := by decide +kernel
theorem dX11_claim_21 : decode cX11_claim 21 = .ok (.getfield 37, 3) := by decide +kernel
theorem dX11_claim_24 : decode cX11_claim 24 = .ok (.iload_n 1, 1) := by decide +kernel
theorem dX11_claim_25 : decode cX11_claim 25 = .ok (.iaload, 1) := by decide +kernel
theorem dX11_claim_26 : decode cX11_claim 26 = .ok (.istore_n 3, 1) := by decide +kernel
theorem dX11_claim_27 : decode cX11_claim 27 = .ok (.aload_n 0, 1) := by decide +kernel
theorem dX11_claim_28 : decode cX11_claim 28 = .ok (.getfield 37, 3) := by decide +kernel
theorem dX11_claim_31 : decode cX11_claim 31 = .ok (.iload_n 1, 1) := by decide +kernel
theorem dX11_claim_32 : decode cX11_claim 32 = .ok (.iload_n 2, 1) := by decide +kernel
theorem dX11_claim_33 : decode cX11_claim 33 = .ok (.iastore, 1) := by decide +kernel
theorem dX11_claim_34 : decode cX11_claim 34 = .ok (.iload_n 3, 1) := by decide +kernel
theorem dX11_claim_35 : decode cX11_claim 35 = .ok (.ireturn, 1) := by decide +kernel
set_option maxRecDepth 20000 in
theorem ggX11_claims_X11_isLand : GoodIn wsX11_claims wsX11_isLand := goodIn_r _ [8] (by decide +kernel) (by decide +kernel)
set_option maxRecDepth 20000 in
theorem gX11_claims_X11_isLand : GoodIn wsX11_claims (va_wsS RX11 70 yX11_isLand wsX11_isLand) := goodIn_app (goodIn_of _ (by decide +kernel)) ggX11_claims_X11_isLand
set_option maxRecDepth 20000 in
theorem ggX11_claims_X11_isPerson : GoodIn wsX11_claims wsX11_isPerson := goodIn_r _ [12, 13, 38, 39, 40, 41, 42, 43, 44, 45, 46, 47, 48, 49, 50, 51, 52, 53] (by decide +kernel) (by decide +kernel)
set_option maxRecDepth 20000 in
theorem gX11_claims_X11_isPerson : GoodIn wsX11_claims (wsV RX11 78 RX11 yX11_isPerson wsX11_isPerson) := goodIn_app (goodIn_of _ (by decide +kernel)) ggX11_claims_X11_isPerson
set_option maxRecDepth 20000 in
theorem ggX11_claims_X11_isYear : GoodIn wsX11_claims wsX11_isYear := goodIn_r _ [16] (by decide +kernel) (by decide +kernel)
set_option maxRecDepth 20000 in
theorem gX11_claims_X11_isYear : GoodIn wsX11_claims (va_wsS RX11 251 yX11_isYear wsX11_isYear) := goodIn_app (goodIn_of _ (by decide +kernel)) ggX11_claims_X11_isYear
set_option maxRecDepth 20000 in
theorem ggX11_claims_X11_sumYear : GoodIn wsX11_claims wsX11_sumYear := goodIn_r _ [20, 1, 21, 22, 23, 24, 25, 26, 27, 28, 29, 30, 31, 32, 33, 34, 35, 36, 37, 38, 39, 40, 41, 42, 43, 44, 45, 46, 47, 48, 49, 50, 51, 52, 53, 54, 55, 56] (by decide +kernel) (by decide +kernel)
set_option maxRecDepth 20000 in
theorem gX11_claims_X11_sumYear : GoodIn wsX11_claims (wsV RX11 254 RX11 yX11_sumYear wsX11_sumYear) := goodIn_app (goodIn_of _ (by decide +kernel)) ggX11_claims_X11_sumYear
theorem dX11_claims_0 : decode cX11_claims 0 = .ok (.iload_n 1, 1) := by decide +kernel
theorem dX11_claims_1 : decode cX11_claims 1 = .ok (.invokestatic 70, 3) := by decide +kernel
theorem dX11_claims_4 : decode cX11_claims 4 = .ok (.ifCond .eq 18, 3) := by decide +kernel
theorem dX11_claims_7 : decode cX11_claims 7 = .ok (.aload_n 0, 1) := by decide +kernel
theorem dX11_claims_8 : decode cX11_claims 8 = .ok (.iload_n 2, 1) := by decide +kernel
theorem dX11_claims_9 : decode cX11_claims 9 = .ok (.invokevirtual 78, 3) := by decide +kernel
theorem dX11_claims_12 : decode cX11_claims 12 = .ok (.ifCond .eq 10, 3) := by decide +kernel
theorem dX11_claims_15 : decode cX11_claims 15 = .ok (.iload_n 3, 1) := by decide +kernel
theorem dX11_claims_16 : decode cX11_claims 16 = .ok (.invokestatic 251, 3) := by decide +kernel
theorem dX11_claims_19 : decode cX11_claims 19 = .ok (.ifCond .ne 5, 3) := by decide +kernel
theorem dX11_claims_22 : decode cX11_claims 22 = .ok (.iconst (-1), 1) := by decide +kernel
theorem dX11_claims_23 : decode cX11_claims 23 = .ok (.ireturn, 1) := by decide +kernel
theorem dX11_claims_24 : decode cX11_claims 24 = .ok (.aload_n 0, 1) := by decide +kernel
theorem dX11_claims_25 : decode cX11_claims 25 = .ok (.iload_n 1, 1) := by decide +kernel
theorem dX11_claims_26 : decode cX11_claims 26 = .ok (.iload_n 2, 1) := by decide +kernel
theorem dX11_claims_27 : decode cX11_claims 27 = .ok (.iload_n 3, 1) := by decide +kernel
theorem dX11_claims_28 : decode cX11_claims 28 = .ok (.invokevirtual 254, 3) := by decide +kernel
theorem dX11_claims_31 : decode cX11_claims 31 = .ok (.aload_n 0, 1) := by decide +kernel
theorem dX11_claims_32 : decode cX11_claims 32 = .ok (.getfield 57, 3) := by decide +kernel
theorem dX11_claims_35 : decode cX11_claims 35 = .ok (.iload_n 1, 1) := by decide +kernel
theorem dX11_claims_36 : decode cX11_claims 36 = .ok (.aaload, 1) := by decide +kernel
theorem dX11_claims_37 : decode cX11_claims 37 = .ok (.getfield 144, 3) := by decide +kernel
theorem dX11_claims_40 : decode cX11_claims 40 = .ok (.aload_n 0, 1) := by decide +kernel
theorem dX11_claims_41 : decode cX11_claims 41 = .ok (.getfield 37, 3) := by decide +kernel
theorem dX11_claims_44 : decode cX11_claims 44 = .ok (.iload_n 1, 1) := by decide +kernel
theorem dX11_claims_45 : decode cX11_claims 45 = .ok (.iaload, 1) := by decide +kernel
theorem dX11_claims_46 : decode cX11_claims 46 = .ok (.if_icmp .lt 5, 3) := by decide +kernel
theorem dX11_claims_49 : decode cX11_claims 49 = .ok (.iconst 2, 1) := by decide +kernel
theorem dX11_claims_50 : decode cX11_claims 50 = .ok (.ireturn, 1) := by decide +kernel
theorem dX11_claims_51 : decode cX11_claims 51 = .ok (.aload_n 0, 1) := by decide +kernel
theorem dX11_claims_52 : decode cX11_claims 52 = .ok (.getfield 57, 3) := by decide +kernel
theorem dX11_claims_55 : decode cX11_claims 55 = .ok (.iload_n 1, 1) := by decide +kernel
theorem dX11_claims_56 : decode cX11_claims 56 = .ok (.aaload, 1) := by decide +kernel
theorem dX11_claims_57 : decode cX11_claims 57 = .ok (.getfield 141, 3) := by decide +kernel
theorem dX11_claims_60 : decode cX11_claims 60 = .ok (.aload_n 0, 1) := by decide +kernel
theorem dX11_claims_61 : decode cX11_claims 61 = .ok (.getfield 37, 3) := by decide +kernel
theorem dX11_claims_64 : decode cX11_claims 64 = .ok (.iload_n 1, 1) := by decide +kernel
theorem dX11_claims_65 : decode cX11_claims 65 = .ok (.iaload, 1) := by decide +kernel
theorem dX11_claims_66 : decode cX11_claims 66 = .ok (.if_icmp .lt 7, 3) := by decide +kernel
theorem dX11_claims_69 : decode cX11_claims 69 = .ok (.iconst 1, 1) := by decide +kernel
theorem dX11_claims_70 : decode cX11_claims 70 = .ok (.goto 4, 3) := by decide +kernel
theorem dX11_claims_73 : decode cX11_claims 73 = .ok (.iconst 0, 1) := by decide +kernel
theorem dX11_claims_74 : decode cX11_claims 74 = .ok (.ireturn, 1) := by decide +kernel
set_option maxRecDepth 20000 in
theorem ggX11_treaty_X11_isLand : GoodIn wsX11_treaty wsX11_isLand := goodIn_r _ [6] (by decide +kernel) (by decide +kernel)
set_option maxRecDepth 20000 in
theorem gX11_treaty_X11_isLand : GoodIn wsX11_treaty (va_wsS RX11 70 yX11_isLand wsX11_isLand) := goodIn_app (goodIn_of _ (by decide +kernel)) ggX11_treaty_X11_isLand
set_option maxRecDepth 20000 in
theorem ggX11_treaty_X11_areTests : GoodIn wsX11_treaty wsX11_areTests := goodIn_r _ [9, 10, 11, 5, 12] (by decide +kernel) (by decide +kernel)
set_option maxRecDepth 20000 in
theorem gX11_treaty_X11_areTests : GoodIn wsX11_treaty (va_wsS RX11 257 yX11_areTests wsX11_areTests) := goodIn_app (goodIn_of _ (by decide +kernel)) ggX11_treaty_X11_areTests
set_option maxRecDepth 20000 in
theorem ggX11_treaty_X11_pairOf : GoodIn wsX11_treaty wsX11_pairOf := goodIn_r _ [15, 16, 17, 18, 19, 20, 21, 22] (by decide +kernel) (by decide +kernel)
set_option maxRecDepth 20000 in
theorem gX11_treaty_X11_pairOf : GoodIn wsX11_treaty (va_wsS RX11 260 yX11_pairOf wsX11_pairOf) := goodIn_app (goodIn_of _ (by decide +kernel)) ggX11_treaty_X11_pairOf
theorem dX11_treaty_0 : decode cX11_treaty 0 = .ok (.iload_n 1, 1) := by decide +kernel
theorem dX11_treaty_1 : decode cX11_treaty 1 = .ok (.invokestatic 70, 3) := by decide +kernel
theorem dX11_treaty_4 : decode cX11_treaty 4 = .ok (.ifCond .eq 22, 3) := by decide +kernel
theorem dX11_treaty_7 : decode cX11_treaty 7 = .ok (.iload_n 2, 1) := by decide +kernel
theorem dX11_treaty_8 : decode cX11_treaty 8 = .ok (.invokestatic 70, 3) := by decide +kernel
theorem dX11_treaty_11 : decode cX11_treaty 11 = .ok (.ifCond .eq 15, 3) := by decide +kernel
theorem dX11_treaty_14 : decode cX11_treaty 14 = .ok (.iload_n 1, 1) := by decide +kernel
theorem dX11_treaty_15 : decode cX11_treaty 15 = .ok (.iload_n 2, 1) := by decide +kernel
theorem dX11_treaty_16 : decode cX11_treaty 16 = .ok (.if_icmp .eq 10, 3) := by decide +kernel
theorem dX11_treaty_19 : decode cX11_treaty 19 = .ok (.iload_n 3, 1) := by decide +kernel
theorem dX11_treaty_20 : decode cX11_treaty 20 = .ok (.invokestatic 257, 3) := by decide +kernel
theorem dX11_treaty_23 : decode cX11_treaty 23 = .ok (.ifCond .ne 5, 3) := by decide +kernel
theorem dX11_treaty_26 : decode cX11_treaty 26 = .ok (.iconst (-1), 1) := by decide +kernel
theorem dX11_treaty_27 : decode cX11_treaty 27 = .ok (.ireturn, 1) := by decide +kernel
theorem dX11_treaty_28 : decode cX11_treaty 28 = .ok (.iload_n 1, 1) := by decide +kernel
theorem dX11_treaty_29 : decode cX11_treaty 29 = .ok (.iload_n 2, 1) := by decide +kernel
theorem dX11_treaty_30 : decode cX11_treaty 30 = .ok (.invokestatic 260, 3) := by decide +kernel
theorem dX11_treaty_33 : decode cX11_treaty 33 = .ok (.istore 4, 2) := by decide +kernel
theorem dX11_treaty_35 : decode cX11_treaty 35 = .ok (.aload_n 0, 1) := by decide +kernel
theorem dX11_treaty_36 : decode cX11_treaty 36 = .ok (.getfield 46, 3) := by decide +kernel
theorem dX11_treaty_39 : decode cX11_treaty 39 = .ok (.iload 4, 2) := by decide +kernel
theorem dX11_treaty_41 : decode cX11_treaty 41 = .ok (.iaload, 1) := by decide +kernel
theorem dX11_treaty_42 : decode cX11_treaty 42 = .ok (.iconst (-1), 1) := by decide +kernel
theorem dX11_treaty_43 : decode cX11_treaty 43 = .ok (.if_icmp .eq 7, 3) := by decide +kernel
theorem dX11_treaty_46 : decode cX11_treaty 46 = .ok (.iconst 1, 1) := by decide +kernel
theorem dX11_treaty_47 : decode cX11_treaty 47 = .ok (.goto 4, 3) := by decide +kernel
theorem dX11_treaty_50 : decode cX11_treaty 50 = .ok (.iconst 0, 1) := by decide +kernel
theorem dX11_treaty_51 : decode cX11_treaty 51 = .ok (.istore 5, 2) := by decide +kernel
theorem dX11_treaty_53 : decode cX11_treaty 53 = .ok (.aload_n 0, 1) := by decide +kernel
theorem dX11_treaty_54 : decode cX11_treaty 54 = .ok (.getfield 46, 3) := by decide +kernel
theorem dX11_treaty_57 : decode cX11_treaty 57 = .ok (.iload 4, 2) := by decide +kernel
theorem dX11_treaty_59 : decode cX11_treaty 59 = .ok (.iload_n 3, 1) := by decide +kernel
theorem dX11_treaty_60 : decode cX11_treaty 60 = .ok (.iastore, 1) := by decide +kernel
theorem dX11_treaty_61 : decode cX11_treaty 61 = .ok (.iload 5, 2) := by decide +kernel
theorem dX11_treaty_63 : decode cX11_treaty 63 = .ok (.ifCond .ne 13, 3) := by decide +kernel
theorem dX11_treaty_66 : decode cX11_treaty 66 = .ok (.aload_n 0, 1) := by decide +kernel
theorem dX11_treaty_67 : decode cX11_treaty 67 = .ok (.dup, 1) := by decide +kernel
theorem dX11_treaty_68 : decode cX11_treaty 68 = .ok (.getfield 263, 3) := by decide +kernel
theorem dX11_treaty_71 : decode cX11_treaty 71 = .ok (.iconst 1, 1) := by decide +kernel
theorem dX11_treaty_72 : decode cX11_treaty 72 = .ok (.iadd, 1) := by decide +kernel
theorem dX11_treaty_73 : decode cX11_treaty 73 = .ok (.putfield 263, 3) := by decide +kernel
theorem dX11_treaty_76 : decode cX11_treaty 76 = .ok (.iload 5, 2) := by decide +kernel
theorem dX11_treaty_78 : decode cX11_treaty 78 = .ok (.ifCond .eq 7, 3) := by decide +kernel
theorem dX11_treaty_81 : decode cX11_treaty 81 = .ok (.iconst 1, 1) := by decide +kernel
theorem dX11_treaty_82 : decode cX11_treaty 82 = .ok (.goto 4, 3) := by decide +kernel
theorem dX11_treaty_85 : decode cX11_treaty 85 = .ok (.iconst 0, 1) := by decide +kernel
theorem dX11_treaty_86 : decode cX11_treaty 86 = .ok (.ireturn, 1) := by decide +kernel
set_option maxRecDepth 20000 in
theorem ggX11_decides_X11_isLand : GoodIn wsX11_decides wsX11_isLand := goodIn_r _ [4] (by decide +kernel) (by decide +kernel)
set_option maxRecDepth 20000 in
theorem gX11_decides_X11_isLand : GoodIn wsX11_decides (va_wsS RX11 70 yX11_isLand wsX11_isLand) := goodIn_app (goodIn_of _ (by decide +kernel)) ggX11_decides_X11_isLand
set_option maxRecDepth 20000 in
theorem ggX11_decides_X11_isPerson : GoodIn wsX11_decides wsX11_isPerson := goodIn_r _ [8, 9, 65, 66, 67, 68, 69, 70, 71, 72, 73, 74, 75, 76, 77, 78, 79, 80] (by decide +kernel) (by decide +kernel)
set_option maxRecDepth 20000 in
theorem gX11_decides_X11_isPerson : GoodIn wsX11_decides (wsV RX11 78 RX11 yX11_isPerson wsX11_isPerson) := goodIn_app (goodIn_of _ (by decide +kernel)) ggX11_decides_X11_isPerson
set_option maxRecDepth 20000 in
theorem ggX11_decides_X11_isYear : GoodIn wsX11_decides wsX11_isYear := goodIn_r _ [12] (by decide +kernel) (by decide +kernel)
set_option maxRecDepth 20000 in
theorem gX11_decides_X11_isYear : GoodIn wsX11_decides (va_wsS RX11 251 yX11_isYear wsX11_isYear) := goodIn_app (goodIn_of _ (by decide +kernel)) ggX11_decides_X11_isYear
set_option maxRecDepth 20000 in
theorem ggX11_decides_X11_sumYear : GoodIn wsX11_decides wsX11_sumYear := goodIn_r _ [16, 17, 18, 19, 20, 21, 22, 23, 24, 25, 26, 27, 28, 29, 30, 31, 32, 33, 34, 65, 66, 67, 68, 69, 70, 71, 72, 73, 74, 75, 76, 77, 78, 79, 80, 81, 82, 83] (by decide +kernel) (by decide +kernel)
set_option maxRecDepth 20000 in
theorem gX11_decides_X11_sumYear : GoodIn wsX11_decides (wsV RX11 254 RX11 yX11_sumYear wsX11_sumYear) := goodIn_app (goodIn_of _ (by decide +kernel)) ggX11_decides_X11_sumYear
set_option maxRecDepth 20000 in
theorem ggX11_decides_X11_decidedFor : GoodIn wsX11_decides wsX11_decidedFor := goodIn_r _ [38, 39, 40, 41, 3, 42, 43, 44, 28, 45, 46, 27, 29, 47, 48, 49, 50, 51, 52, 53, 54, 55, 56, 57, 58, 59, 60, 61, 62, 17, 63, 64, 65, 66, 67, 68, 69, 70, 71, 72, 73, 74, 75, 76, 77, 78, 79, 80, 81, 82, 83] (by decide +kernel) (by decide +kernel)
set_option maxRecDepth 20000 in
theorem gX11_decides_X11_decidedFor : GoodIn wsX11_decides (wsV RX11 266 RX11 yX11_decidedFor wsX11_decidedFor) := goodIn_app (goodIn_of _ (by decide +kernel)) ggX11_decides_X11_decidedFor
theorem dX11_decides_0 : decode cX11_decides 0 = .ok (.iload_n 1, 1) := by decide +kernel
theorem dX11_decides_1 : decode cX11_decides 1 = .ok (.invokestatic 70, 3) := by decide +kernel
theorem dX11_decides_4 : decode cX11_decides 4 = .ok (.ifCond .eq 31, 3) := by decide +kernel
theorem dX11_decides_7 : decode cX11_decides 7 = .ok (.iload_n 2, 1) := by decide +kernel
theorem dX11_decides_8 : decode cX11_decides 8 = .ok (.invokestatic 70, 3) := by decide +kernel
theorem dX11_decides_11 : decode cX11_decides 11 = .ok (.ifCond .eq 24, 3) := by decide +kernel
theorem dX11_decides_14 : decode cX11_decides 14 = .ok (.iload_n 1, 1) := by decide +kernel
theorem dX11_decides_15 : decode cX11_decides 15 = .ok (.iload_n 2, 1) := by decide +kernel
theorem dX11_decides_16 : decode cX11_decides 16 = .ok (.if_icmp .eq 19, 3) := by decide +kernel
theorem dX11_decides_19 : decode cX11_decides 19 = .ok (.aload_n 0, 1) := by decide +kernel
theorem dX11_decides_20 : decode cX11_decides 20 = .ok (.iload_n 3, 1) := by decide +kernel
theorem dX11_decides_21 : decode cX11_decides 21 = .ok (.invokevirtual 78, 3) := by decide +kernel
theorem dX11_decides_24 : decode cX11_decides 24 = .ok (.ifCond .eq 11, 3) := by decide +kernel
theorem dX11_decides_27 : decode cX11_decides 27 = .ok (.iload 4, 2) := by decide +kernel
theorem dX11_decides_29 : decode cX11_decides 29 = .ok (.invokestatic 251, 3) := by decide +kernel
theorem dX11_decides_32 : decode cX11_decides 32 = .ok (.ifCond .ne 5, 3) := by decide +kernel
theorem dX11_decides_35 : decode cX11_decides 35 = .ok (.iconst (-1), 1) := by decide +kernel
theorem dX11_decides_36 : decode cX11_decides 36 = .ok (.ireturn, 1) := by decide +kernel
theorem dX11_decides_37 : decode cX11_decides 37 = .ok (.aload_n 0, 1) := by decide +kernel
theorem dX11_decides_38 : decode cX11_decides 38 = .ok (.iload_n 1, 1) := by decide +kernel
theorem dX11_decides_39 : decode cX11_decides 39 = .ok (.iload_n 3, 1) := by decide +kernel
theorem dX11_decides_40 : decode cX11_decides 40 = .ok (.iload 4, 2) := by decide +kernel
theorem dX11_decides_42 : decode cX11_decides 42 = .ok (.invokevirtual 254, 3) := by decide +kernel
theorem dX11_decides_45 : decode cX11_decides 45 = .ok (.aload_n 0, 1) := by decide +kernel
theorem dX11_decides_46 : decode cX11_decides 46 = .ok (.iload_n 2, 1) := by decide +kernel
theorem dX11_decides_47 : decode cX11_decides 47 = .ok (.iload_n 3, 1) := by decide +kernel
theorem dX11_decides_48 : decode cX11_decides 48 = .ok (.iload 4, 2) := by decide +kernel
theorem dX11_decides_50 : decode cX11_decides 50 = .ok (.invokevirtual 254, 3) := by decide +kernel
theorem dX11_decides_53 : decode cX11_decides 53 = .ok (.aload_n 0, 1) := by decide +kernel
theorem dX11_decides_54 : decode cX11_decides 54 = .ok (.iload_n 1, 1) := by decide +kernel
theorem dX11_decides_55 : decode cX11_decides 55 = .ok (.iload_n 2, 1) := by decide +kernel
theorem dX11_decides_56 : decode cX11_decides 56 = .ok (.iload_n 3, 1) := by decide +kernel
theorem dX11_decides_57 : decode cX11_decides 57 = .ok (.invokevirtual 266, 3) := by decide +kernel
theorem dX11_decides_60 : decode cX11_decides 60 = .ok (.ireturn, 1) := by decide +kernel
set_option maxRecDepth 20000 in
theorem ggX11_taxed_X11_isPerson : GoodIn wsX11_taxed wsX11_isPerson := goodIn_r _ [5, 6, 71, 72, 73, 74, 75, 76, 77, 78, 79, 80, 81, 82, 83, 84, 85, 86] (by decide +kernel) (by decide +kernel)
set_option maxRecDepth 20000 in
theorem gX11_taxed_X11_isPerson : GoodIn wsX11_taxed (wsV RX11 78 RX11 yX11_isPerson wsX11_isPerson) := goodIn_app (goodIn_of _ (by decide +kernel)) ggX11_taxed_X11_isPerson
set_option maxRecDepth 20000 in
theorem ggX11_taxed_X11_isYear : GoodIn wsX11_taxed wsX11_isYear := goodIn_r _ [9] (by decide +kernel) (by decide +kernel)
set_option maxRecDepth 20000 in
theorem gX11_taxed_X11_isYear : GoodIn wsX11_taxed (va_wsS RX11 251 yX11_isYear wsX11_isYear) := goodIn_app (goodIn_of _ (by decide +kernel)) ggX11_taxed_X11_isYear
set_option maxRecDepth 20000 in
theorem ggX11_taxed_X11_taxingLand : GoodIn wsX11_taxed wsX11_taxingLand := goodIn_r _ [13, 14, 15, 16, 17, 18, 19, 4, 20, 21, 22, 23, 24, 25, 26, 27, 28, 29, 30, 31, 32, 33, 34, 35, 36, 37, 38, 39, 40, 41, 42, 43, 44, 45, 46, 47, 48, 49, 50, 51, 52, 53, 54, 55, 56, 57, 58, 59, 60, 61, 62, 63, 64, 65, 66, 67, 68, 69, 70, 71, 72, 73, 74, 75, 76, 77, 78, 79, 80, 81, 82, 83, 84, 85, 86, 87, 88, 89] (by decide +kernel) (by decide +kernel)
set_option maxRecDepth 20000 in
theorem gX11_taxed_X11_taxingLand : GoodIn wsX11_taxed (wsV RX11 270 RX11 yX11_taxingLand wsX11_taxingLand) := goodIn_app (goodIn_of _ (by decide +kernel)) ggX11_taxed_X11_taxingLand
theorem dX11_taxed_0 : decode cX11_taxed 0 = .ok (.aload_n 0, 1) := by decide +kernel
theorem dX11_taxed_1 : decode cX11_taxed 1 = .ok (.iload_n 1, 1) := by decide +kernel
theorem dX11_taxed_2 : decode cX11_taxed 2 = .ok (.invokevirtual 78, 3) := by decide +kernel
theorem dX11_taxed_5 : decode cX11_taxed 5 = .ok (.ifCond .eq 19, 3) := by decide +kernel
theorem dX11_taxed_8 : decode cX11_taxed 8 = .ok (.iload_n 2, 1) := by decide +kernel
theorem dX11_taxed_9 : decode cX11_taxed 9 = .ok (.invokestatic 251, 3) := by decide +kernel
theorem dX11_taxed_12 : decode cX11_taxed 12 = .ok (.ifCond .eq 12, 3) := by decide +kernel
theorem dX11_taxed_15 : decode cX11_taxed 15 = .ok (.aload_n 0, 1) := by decide +kernel
theorem dX11_taxed_16 : decode cX11_taxed 16 = .ok (.iload_n 1, 1) := by decide +kernel
theorem dX11_taxed_17 : decode cX11_taxed 17 = .ok (.iload_n 2, 1) := by decide +kernel
theorem dX11_taxed_18 : decode cX11_taxed 18 = .ok (.invokevirtual 270, 3) := by decide +kernel
theorem dX11_taxed_21 : decode cX11_taxed 21 = .ok (.goto 4, 3) := by decide +kernel
theorem dX11_taxed_24 : decode cX11_taxed 24 = .ok (.iconst (-1), 1) := by decide +kernel
theorem dX11_taxed_25 : decode cX11_taxed 25 = .ok (.ireturn, 1) := by decide +kernel
set_option maxRecDepth 20000 in
theorem ggX11_quarrels_X11_taxingLand : GoodIn wsX11_quarrels wsX11_taxingLand := goodIn_r _ [6, 7, 8, 9, 10, 11, 12, 5, 13, 14, 15, 16, 17, 18, 19, 20, 21, 22, 23, 24, 25, 26, 27, 28, 29, 30, 31, 32, 33, 34, 35, 36, 37, 38, 39, 40, 41, 42, 43, 44, 45, 46, 47, 48, 49, 50, 51, 52, 53, 54, 55, 56, 57, 58, 59, 60, 61, 62, 63, 64, 65, 66, 67, 68, 69, 70, 71, 72, 73, 74, 75, 76, 77, 78, 79, 80, 81, 82] (by decide +kernel) (by decide +kernel)
set_option maxRecDepth 20000 in
theorem gX11_quarrels_X11_taxingLand : GoodIn wsX11_quarrels (wsV RX11 270 RX11 yX11_taxingLand wsX11_taxingLand) := goodIn_app (goodIn_of _ (by decide +kernel)) ggX11_quarrels_X11_taxingLand
theorem dX11_quarrels_0 : decode cX11_quarrels 0 = .ok (.iconst 0, 1) := by decide +kernel
theorem dX11_quarrels_1 : decode cX11_quarrels 1 = .ok (.istore_n 1, 1) := by decide +kernel
theorem dX11_quarrels_2 : decode cX11_quarrels 2 = .ok (.iconst 0, 1) := by decide +kernel
theorem dX11_quarrels_3 : decode cX11_quarrels 3 = .ok (.istore_n 2, 1) := by decide +kernel
theorem dX11_quarrels_4 : decode cX11_quarrels 4 = .ok (.iload_n 2, 1) := by decide +kernel
theorem dX11_quarrels_5 : decode cX11_quarrels 5 = .ok (.aload_n 0, 1) := by decide +kernel
theorem dX11_quarrels_6 : decode cX11_quarrels 6 = .ok (.getfield 74, 3) := by decide +kernel
theorem dX11_quarrels_9 : decode cX11_quarrels 9 = .ok (.if_icmp .ge 36, 3) := by decide +kernel
theorem dX11_quarrels_12 : decode cX11_quarrels 12 = .ok (.iconst 0, 1) := by decide +kernel
theorem dX11_quarrels_13 : decode cX11_quarrels 13 = .ok (.istore_n 3, 1) := by decide +kernel
theorem dX11_quarrels_14 : decode cX11_quarrels 14 = .ok (.iload_n 3, 1) := by decide +kernel
theorem dX11_quarrels_15 : decode cX11_quarrels 15 = .ok (.iconst 4, 1) := by decide +kernel
theorem dX11_quarrels_16 : decode cX11_quarrels 16 = .ok (.if_icmp .ge 23, 3) := by decide +kernel
theorem dX11_quarrels_19 : decode cX11_quarrels 19 = .ok (.aload_n 0, 1) := by decide +kernel
theorem dX11_quarrels_20 : decode cX11_quarrels 20 = .ok (.iload_n 2, 1) := by decide +kernel
theorem dX11_quarrels_21 : decode cX11_quarrels 21 = .ok (.iload_n 3, 1) := by decide +kernel
theorem dX11_quarrels_22 : decode cX11_quarrels 22 = .ok (.invokevirtual 270, 3) := by decide +kernel
theorem dX11_quarrels_25 : decode cX11_quarrels 25 = .ok (.bipush (-3), 2) := by decide +kernel
theorem dX11_quarrels_27 : decode cX11_quarrels 27 = .ok (.if_icmp .ne 6, 3) := by decide +kernel
theorem dX11_quarrels_30 : decode cX11_quarrels 30 = .ok (.iinc 1 1, 3) := by decide +kernel
theorem dX11_quarrels_33 : decode cX11_quarrels 33 = .ok (.iinc 3 1, 3) := by decide +kernel
theorem dX11_quarrels_36 : decode cX11_quarrels 36 = .ok (.goto (-22), 3) := by decide +kernel
theorem dX11_quarrels_39 : decode cX11_quarrels 39 = .ok (.iinc 2 1, 3) := by decide +kernel
theorem dX11_quarrels_42 : decode cX11_quarrels 42 = .ok (.goto (-38), 3) := by decide +kernel
theorem dX11_quarrels_45 : decode cX11_quarrels 45 = .ok (.iload_n 1, 1) := by decide +kernel
theorem dX11_quarrels_46 : decode cX11_quarrels 46 = .ok (.ireturn, 1) := by decide +kernel
set_option maxRecDepth 20000 in
theorem ggX11_count_X11_droppedMarks : GoodIn wsX11_count wsX11_droppedMarks := goodIn_r _ [9, 2, 10, 11, 17, 18, 19, 20, 21, 22, 23, 24, 25, 26, 27, 28, 29, 30, 31, 32, 33, 34, 35, 36, 37, 38, 39, 40, 41, 42, 43, 44, 45, 46, 47, 48, 49, 50, 51, 52, 53, 54, 55, 56] (by decide +kernel) (by decide +kernel)
set_option maxRecDepth 20000 in
theorem gX11_count_X11_droppedMarks : GoodIn wsX11_count (wsV RX11 273 RX11 yX11_droppedMarks wsX11_droppedMarks) := goodIn_app (goodIn_of _ (by decide +kernel)) ggX11_count_X11_droppedMarks
set_option maxRecDepth 20000 in
theorem ggX11_count_X11_joinedPeople : GoodIn wsX11_count wsX11_joinedPeople := goodIn_r _ [15, 1, 16, 17, 18, 19, 20, 21, 22, 23, 24, 25, 26, 27, 28, 29, 30, 31, 32] (by decide +kernel) (by decide +kernel)
set_option maxRecDepth 20000 in
theorem gX11_count_X11_joinedPeople : GoodIn wsX11_count (wsV RX11 276 RX11 yX11_joinedPeople wsX11_joinedPeople) := goodIn_app (goodIn_of _ (by decide +kernel)) ggX11_count_X11_joinedPeople
theorem dX11_count_0 : decode cX11_count 0 = .ok (.iload_n 1, 1) := by decide +kernel
theorem dX11_count_1 : decode cX11_count 1 = .ok (.tableswitch 69 0 5 #[39, 44, 49, 54, 59, 64], 39) := by decide +kernel
theorem dX11_count_40 : decode cX11_count 40 = .ok (.aload_n 0, 1) := by decide +kernel
theorem dX11_count_41 : decode cX11_count 41 = .ok (.getfield 74, 3) := by decide +kernel
theorem dX11_count_44 : decode cX11_count 44 = .ok (.ireturn, 1) := by decide +kernel
theorem dX11_count_45 : decode cX11_count 45 = .ok (.aload_n 0, 1) := by decide +kernel
theorem dX11_count_46 : decode cX11_count 46 = .ok (.getfield 85, 3) := by decide +kernel
theorem dX11_count_49 : decode cX11_count 49 = .ok (.ireturn, 1) := by decide +kernel
theorem dX11_count_50 : decode cX11_count 50 = .ok (.aload_n 0, 1) := by decide +kernel
theorem dX11_count_51 : decode cX11_count 51 = .ok (.getfield 157, 3) := by decide +kernel
theorem dX11_count_54 : decode cX11_count 54 = .ok (.ireturn, 1) := by decide +kernel
theorem dX11_count_55 : decode cX11_count 55 = .ok (.aload_n 0, 1) := by decide +kernel
theorem dX11_count_56 : decode cX11_count 56 = .ok (.getfield 263, 3) := by decide +kernel
theorem dX11_count_59 : decode cX11_count 59 = .ok (.ireturn, 1) := by decide +kernel
theorem dX11_count_60 : decode cX11_count 60 = .ok (.aload_n 0, 1) := by decide +kernel
theorem dX11_count_61 : decode cX11_count 61 = .ok (.invokevirtual 273, 3) := by decide +kernel
theorem dX11_count_64 : decode cX11_count 64 = .ok (.ireturn, 1) := by decide +kernel
theorem dX11_count_65 : decode cX11_count 65 = .ok (.aload_n 0, 1) := by decide +kernel
theorem dX11_count_66 : decode cX11_count 66 = .ok (.invokevirtual 276, 3) := by decide +kernel
theorem dX11_count_69 : decode cX11_count 69 = .ok (.ireturn, 1) := by decide +kernel
theorem dX11_count_70 : decode cX11_count 70 = .ok (.iconst (-1), 1) := by decide +kernel
theorem dX11_count_71 : decode cX11_count 71 = .ok (.ireturn, 1) := by decide +kernel
set_option maxRecDepth 20000 in
theorem ggX11_keep_X11_isShelf : GoodIn wsX11_keep wsX11_isShelf := goodIn_r _ [5] (by decide +kernel) (by decide +kernel)
set_option maxRecDepth 20000 in
theorem gX11_keep_X11_isShelf : GoodIn wsX11_keep (va_wsS RX11 279 yX11_isShelf wsX11_isShelf) := goodIn_app (goodIn_of _ (by decide +kernel)) ggX11_keep_X11_isShelf
set_option maxRecDepth 20000 in
theorem ggX11_keep_X11_wanted : GoodIn wsX11_keep wsX11_wanted := goodIn_r _ [9, 10, 11, 12, 4, 13, 14, 15, 16, 17, 18, 19, 20, 21, 22, 23, 24, 25, 26, 27, 28, 29, 30, 31, 32, 33, 34, 35, 36, 37, 38, 39, 40, 41, 42, 43, 44, 45, 46, 47, 48, 49, 50, 51, 52, 53, 54, 55, 56, 57, 58, 59, 60, 61, 62, 63, 64, 65, 66, 67, 68, 69, 70, 71, 72, 73, 74, 75, 76, 77, 78, 79, 80, 81, 82, 83, 84, 85, 86, 87, 88, 89, 90, 91] (by decide +kernel) (by decide +kernel)
set_option maxRecDepth 20000 in
theorem gX11_keep_X11_wanted : GoodIn wsX11_keep (wsV RX11 282 RX11 yX11_wanted wsX11_wanted) := goodIn_app (goodIn_of _ (by decide +kernel)) ggX11_keep_X11_wanted
theorem dX11_keep_0 : decode cX11_keep 0 = .ok (.iload_n 1, 1) := by decide +kernel
theorem dX11_keep_1 : decode cX11_keep 1 = .ok (.invokestatic 279, 3) := by decide +kernel
theorem dX11_keep_4 : decode cX11_keep 4 = .ok (.ifCond .ne 5, 3) := by decide +kernel
theorem dX11_keep_7 : decode cX11_keep 7 = .ok (.iconst (-1), 1) := by decide +kernel
theorem dX11_keep_8 : decode cX11_keep 8 = .ok (.ireturn, 1) := by decide +kernel
theorem dX11_keep_9 : decode cX11_keep 9 = .ok (.iload_n 2, 1) := by decide +kernel
theorem dX11_keep_10 : decode cX11_keep 10 = .ok (.ifCond .ne 7, 3) := by decide +kernel
theorem dX11_keep_13 : decode cX11_keep 13 = .ok (.aconst_null, 1) := by decide +kernel
theorem dX11_keep_14 : decode cX11_keep 14 = .ok (.goto 9, 3) := by decide +kernel
theorem dX11_keep_17 : decode cX11_keep 17 = .ok (.aload_n 0, 1) := by decide +kernel
theorem dX11_keep_18 : decode cX11_keep 18 = .ok (.iload_n 2, 1) := by decide +kernel
theorem dX11_keep_19 : decode cX11_keep 19 = .ok (.iload_n 3, 1) := by decide +kernel
theorem dX11_keep_20 : decode cX11_keep 20 = .ok (.invokevirtual 282, 3) := by decide +kernel
theorem dX11_keep_23 : decode cX11_keep 23 = .ok (.astore 4, 2) := by decide +kernel
theorem dX11_keep_25 : decode cX11_keep 25 = .ok (.aload 4, 2) := by decide +kernel
theorem dX11_keep_27 : decode cX11_keep 27 = .ok (.ifnonnull 9, 3) := by decide +kernel
theorem dX11_keep_30 : decode cX11_keep 30 = .ok (.iload_n 2, 1) := by decide +kernel
theorem dX11_keep_31 : decode cX11_keep 31 = .ok (.ifCond .eq 5, 3) := by decide +kernel
theorem dX11_keep_34 : decode cX11_keep 34 = .ok (.iconst (-1), 1) := by decide +kernel
theorem dX11_keep_35 : decode cX11_keep 35 = .ok (.ireturn, 1) := by decide +kernel
theorem dX11_keep_36 : decode cX11_keep 36 = .ok (.aload_n 0, 1) := by decide +kernel
theorem dX11_keep_37 : decode cX11_keep 37 = .ok (.getfield 51, 3) := by decide +kernel
theorem dX11_keep_40 : decode cX11_keep 40 = .ok (.iload_n 1, 1) := by decide +kernel
theorem dX11_keep_41 : decode cX11_keep 41 = .ok (.aload 4, 2) := by decide +kernel
theorem dX11_keep_43 : decode cX11_keep 43 = .ok (.aastore, 1) := by decide +kernel
theorem dX11_keep_44 : decode cX11_keep 44 = .ok (.iconst 0, 1) := by decide +kernel
theorem dX11_keep_45 : decode cX11_keep 45 = .ok (.ireturn, 1) := by decide +kernel
set_option maxRecDepth 20000 in
theorem ggX11_make_X11_isShelf : GoodIn wsX11_make wsX11_isShelf := goodIn_r _ [8] (by decide +kernel) (by decide +kernel)
set_option maxRecDepth 20000 in
theorem gX11_make_X11_isShelf : GoodIn wsX11_make (va_wsS RX11 279 yX11_isShelf wsX11_isShelf) := goodIn_app (goodIn_of _ (by decide +kernel)) ggX11_make_X11_isShelf
set_option maxRecDepth 20000 in
theorem ggX11_make_X4_init : GoodIn wsX11_make wsX4_init := goodIn_r _ [11, 12, 13, 14, 15, 16, 17, 18, 19, 20, 21, 22, 23, 24, 41, 42] (by decide +kernel) (by decide +kernel)
set_option maxRecDepth 20000 in
theorem gX11_make_X4_init : GoodIn wsX11_make (wsX4_init) := ggX11_make_X4_init
theorem dX11_make_0 : decode cX11_make 0 = .ok (.iload_n 1, 1) := by decide +kernel
theorem dX11_make_1 : decode cX11_make 1 = .ok (.invokestatic 279, 3) := by decide +kernel
theorem dX11_make_4 : decode cX11_make 4 = .ok (.ifCond .eq 19, 3) := by decide +kernel
theorem dX11_make_7 : decode cX11_make 7 = .ok (.iload_n 2, 1) := by decide +kernel
theorem dX11_make_8 : decode cX11_make 8 = .ok (.iconst 3, 1) := by decide +kernel
theorem dX11_make_9 : decode cX11_make 9 = .ok (.if_icmp .eq 8, 3) := by decide +kernel
theorem dX11_make_12 : decode cX11_make 12 = .ok (.iload_n 2, 1) := by decide +kernel
theorem dX11_make_13 : decode cX11_make 13 = .ok (.iconst 4, 1) := by decide +kernel
theorem dX11_make_14 : decode cX11_make 14 = .ok (.if_icmp .ne 9, 3) := by decide +kernel
theorem dX11_make_17 : decode cX11_make 17 = .ok (.iload_n 3, 1) := by decide +kernel
theorem dX11_make_18 : decode cX11_make 18 = .ok (.bipush 60, 2) := by decide +kernel
theorem dX11_make_20 : decode cX11_make 20 = .ok (.if_icmp .le 5, 3) := by decide +kernel
theorem dX11_make_23 : decode cX11_make 23 = .ok (.iconst (-1), 1) := by decide +kernel
theorem dX11_make_24 : decode cX11_make 24 = .ok (.ireturn, 1) := by decide +kernel
theorem dX11_make_25 : decode cX11_make 25 = .ok (.iload_n 3, 1) := by decide +kernel
theorem dX11_make_26 : decode cX11_make 26 = .ok (.ifCond .ge 6, 3) := by decide +kernel
theorem dX11_make_29 : decode cX11_make 29 = .ok (.bipush (-14), 2) := by decide +kernel
theorem dX11_make_31 : decode cX11_make 31 = .ok (.ireturn, 1) := by decide +kernel
theorem dX11_make_32 : decode cX11_make 32 = .ok (.aload_n 0, 1) := by decide +kernel
theorem dX11_make_33 : decode cX11_make 33 = .ok (.getfield 51, 3) := by decide +kernel
theorem dX11_make_36 : decode cX11_make 36 = .ok (.iload_n 1, 1) := by decide +kernel
theorem dX11_make_37 : decode cX11_make 37 = .ok (.new 286, 3) := by decide +kernel
theorem dX11_make_40 : decode cX11_make 40 = .ok (.dup, 1) := by decide +kernel
theorem dX11_make_41 : decode cX11_make 41 = .ok (.iload_n 2, 1) := by decide +kernel
theorem dX11_make_42 : decode cX11_make 42 = .ok (.iconst 4, 1) := by decide +kernel
theorem dX11_make_43 : decode cX11_make 43 = .ok (.if_icmp .ne 7, 3) := by decide +kernel
theorem dX11_make_46 : decode cX11_make 46 = .ok (.iconst 1, 1) := by decide +kernel
theorem dX11_make_47 : decode cX11_make 47 = .ok (.goto 4, 3) := by decide +kernel
theorem dX11_make_50 : decode cX11_make 50 = .ok (.iconst 0, 1) := by decide +kernel
theorem dX11_make_51 : decode cX11_make 51 = .ok (.iload_n 3, 1) := by decide +kernel
theorem dX11_make_52 : decode cX11_make 52 = .ok (.invokespecial 288, 3) := by decide +kernel
theorem dX11_make_55 : decode cX11_make 55 = .ok (.aastore, 1) := by decide +kernel
theorem dX11_make_56 : decode cX11_make 56 = .ok (.iconst 0, 1) := by decide +kernel
theorem dX11_make_57 : decode cX11_make 57 = .ok (.ireturn, 1) := by decide +kernel
set_option maxRecDepth 20000 in
theorem ggX11_element_X11_isShelf : GoodIn wsX11_element wsX11_isShelf := goodIn_r _ [9] (by decide +kernel) (by decide +kernel)
set_option maxRecDepth 20000 in
theorem gX11_element_X11_isShelf : GoodIn wsX11_element (va_wsS RX11 279 yX11_isShelf wsX11_isShelf) := goodIn_app (goodIn_of _ (by decide +kernel)) ggX11_element_X11_isShelf
set_option maxRecDepth 20000 in
theorem ggX11_element_X11_rowOn : GoodIn wsX11_element wsX11_rowOn := goodIn_r _ [13, 14, 15, 18, 19, 20, 21, 22, 23, 24, 25, 26, 27, 28, 29, 30, 31, 32, 33] (by decide +kernel) (by decide +kernel)
set_option maxRecDepth 20000 in
theorem gX11_element_X11_rowOn : GoodIn wsX11_element (wsV RX11 298 RX11 yX11_rowOn wsX11_rowOn) := goodIn_app (goodIn_of _ (by decide +kernel)) ggX11_element_X11_rowOn
theorem dX11_element_0 : decode cX11_element 0 = .ok (.iload_n 1, 1) := by decide +kernel
theorem dX11_element_1 : decode cX11_element 1 = .ok (.invokestatic 279, 3) := by decide +kernel
theorem dX11_element_4 : decode cX11_element 4 = .ok (.ifCond .ne 14, 3) := by decide +kernel
theorem dX11_element_7 : decode cX11_element 7 = .ok (.new 291, 3) := by decide +kernel
theorem dX11_element_10 : decode cX11_element 10 = .ok (.dup, 1) := by decide +kernel
theorem dX11_element_11 : decode cX11_element 11 = .ok (.ldc_w 293, 3) := by decide +kernel
theorem dX11_element_14 : decode cX11_element 14 = .ok (.invokespecial 295, 3) := by decide +kernel
theorem dX11_element_17 : decode cX11_element 17 = .ok (.athrow, 1) := by decide +kernel
theorem dX11_element_18 : decode cX11_element 18 = .ok (.aload_n 0, 1) := by decide +kernel
theorem dX11_element_19 : decode cX11_element 19 = .ok (.iload_n 1, 1) := by decide +kernel
theorem dX11_element_20 : decode cX11_element 20 = .ok (.invokevirtual 298, 3) := by decide +kernel
theorem dX11_element_23 : decode cX11_element 23 = .ok (.astore_n 3, 1) := by decide +kernel
theorem dX11_element_24 : decode cX11_element 24 = .ok (.aload_n 3, 1) := by decide +kernel
theorem dX11_element_25 : decode cX11_element 25 = .ok (.ifnonnull 14, 3) := by decide +kernel
theorem dX11_element_28 : decode cX11_element 28 = .ok (.new 302, 3) := by decide +kernel
theorem dX11_element_31 : decode cX11_element 31 = .ok (.dup, 1) := by decide +kernel
theorem dX11_element_32 : decode cX11_element 32 = .ok (.ldc_w 304, 3) := by decide +kernel
theorem dX11_element_35 : decode cX11_element 35 = .ok (.invokespecial 306, 3) := by decide +kernel
theorem dX11_element_38 : decode cX11_element 38 = .ok (.athrow, 1) := by decide +kernel
theorem dX11_element_39 : decode cX11_element 39 = .ok (.iload_n 2, 1) := by decide +kernel
theorem dX11_element_40 : decode cX11_element 40 = .ok (.ifCond .lt 12, 3) := by decide +kernel
theorem dX11_element_43 : decode cX11_element 43 = .ok (.iload_n 2, 1) := by decide +kernel
theorem dX11_element_44 : decode cX11_element 44 = .ok (.aload_n 3, 1) := by decide +kernel
theorem dX11_element_45 : decode cX11_element 45 = .ok (.getfield 307, 3) := by decide +kernel
theorem dX11_element_48 : decode cX11_element 48 = .ok (.arraylength, 1) := by decide +kernel
theorem dX11_element_49 : decode cX11_element 49 = .ok (.if_icmp .lt 14, 3) := by decide +kernel
theorem dX11_element_52 : decode cX11_element 52 = .ok (.new 302, 3) := by decide +kernel
theorem dX11_element_55 : decode cX11_element 55 = .ok (.dup, 1) := by decide +kernel
theorem dX11_element_56 : decode cX11_element 56 = .ok (.ldc_w 311, 3) := by decide +kernel
theorem dX11_element_59 : decode cX11_element 59 = .ok (.invokespecial 306, 3) := by decide +kernel
theorem dX11_element_62 : decode cX11_element 62 = .ok (.athrow, 1) := by decide +kernel
theorem dX11_element_63 : decode cX11_element 63 = .ok (.aload_n 3, 1) := by decide +kernel
theorem dX11_element_64 : decode cX11_element 64 = .ok (.getfield 307, 3) := by decide +kernel
theorem dX11_element_67 : decode cX11_element 67 = .ok (.iload_n 2, 1) := by decide +kernel
theorem dX11_element_68 : decode cX11_element 68 = .ok (.saload, 1) := by decide +kernel
theorem dX11_element_69 : decode cX11_element 69 = .ok (.i2l, 1) := by decide +kernel
theorem dX11_element_70 : decode cX11_element 70 = .ok (.lreturn, 1) := by decide +kernel
set_option maxRecDepth 20000 in
theorem ggX11_copy_X11_isShelf : GoodIn wsX11_copy wsX11_isShelf := goodIn_r _ [11] (by decide +kernel) (by decide +kernel)
set_option maxRecDepth 20000 in
theorem gX11_copy_X11_isShelf : GoodIn wsX11_copy (va_wsS RX11 279 yX11_isShelf wsX11_isShelf) := goodIn_app (goodIn_of _ (by decide +kernel)) ggX11_copy_X11_isShelf
set_option maxRecDepth 20000 in
theorem ggX11_copy_X11_rowOn : GoodIn wsX11_copy wsX11_rowOn := goodIn_r _ [15, 1, 16, 23, 24, 25, 26, 27, 28, 29, 30, 31, 32, 33, 34, 35, 36, 37, 38] (by decide +kernel) (by decide +kernel)
set_option maxRecDepth 20000 in
theorem gX11_copy_X11_rowOn : GoodIn wsX11_copy (wsV RX11 298 RX11 yX11_rowOn wsX11_rowOn) := goodIn_app (goodIn_of _ (by decide +kernel)) ggX11_copy_X11_rowOn
set_option maxRecDepth 20000 in
theorem ggX11_copy_X4_hasPlaces : GoodIn wsX11_copy wsX4_hasPlaces := goodIn_r _ [21, 22, 39, 40] (by decide +kernel) (by decide +kernel)
set_option maxRecDepth 20000 in
theorem gX11_copy_X4_hasPlaces : GoodIn wsX11_copy (wsV RX11 316 RX4 yX4_hasPlaces wsX4_hasPlaces) := goodIn_app (goodIn_of _ (by decide +kernel)) ggX11_copy_X4_hasPlaces
theorem dX11_copy_0 : decode cX11_copy 0 = .ok (.iload_n 1, 1) := by decide +kernel
theorem dX11_copy_1 : decode cX11_copy 1 = .ok (.invokestatic 279, 3) := by decide +kernel
theorem dX11_copy_4 : decode cX11_copy 4 = .ok (.ifCond .eq 10, 3) := by decide +kernel
theorem dX11_copy_7 : decode cX11_copy 7 = .ok (.iload_n 3, 1) := by decide +kernel
theorem dX11_copy_8 : decode cX11_copy 8 = .ok (.invokestatic 279, 3) := by decide +kernel
theorem dX11_copy_11 : decode cX11_copy 11 = .ok (.ifCond .ne 5, 3) := by decide +kernel
theorem dX11_copy_14 : decode cX11_copy 14 = .ok (.iconst (-1), 1) := by decide +kernel
theorem dX11_copy_15 : decode cX11_copy 15 = .ok (.ireturn, 1) := by decide +kernel
theorem dX11_copy_16 : decode cX11_copy 16 = .ok (.aload_n 0, 1) := by decide +kernel
theorem dX11_copy_17 : decode cX11_copy 17 = .ok (.getfield 51, 3) := by decide +kernel
theorem dX11_copy_20 : decode cX11_copy 20 = .ok (.iload_n 1, 1) := by decide +kernel
theorem dX11_copy_21 : decode cX11_copy 21 = .ok (.aaload, 1) := by decide +kernel
theorem dX11_copy_22 : decode cX11_copy 22 = .ok (.ifnull 12, 3) := by decide +kernel
theorem dX11_copy_25 : decode cX11_copy 25 = .ok (.aload_n 0, 1) := by decide +kernel
theorem dX11_copy_26 : decode cX11_copy 26 = .ok (.getfield 51, 3) := by decide +kernel
theorem dX11_copy_29 : decode cX11_copy 29 = .ok (.iload_n 3, 1) := by decide +kernel
theorem dX11_copy_30 : decode cX11_copy 30 = .ok (.aaload, 1) := by decide +kernel
theorem dX11_copy_31 : decode cX11_copy 31 = .ok (.ifnonnull 6, 3) := by decide +kernel
theorem dX11_copy_34 : decode cX11_copy 34 = .ok (.bipush (-11), 2) := by decide +kernel
theorem dX11_copy_36 : decode cX11_copy 36 = .ok (.ireturn, 1) := by decide +kernel
theorem dX11_copy_37 : decode cX11_copy 37 = .ok (.aload_n 0, 1) := by decide +kernel
theorem dX11_copy_38 : decode cX11_copy 38 = .ok (.iload_n 1, 1) := by decide +kernel
theorem dX11_copy_39 : decode cX11_copy 39 = .ok (.invokevirtual 298, 3) := by decide +kernel
theorem dX11_copy_42 : decode cX11_copy 42 = .ok (.astore 6, 2) := by decide +kernel
theorem dX11_copy_44 : decode cX11_copy 44 = .ok (.aload_n 0, 1) := by decide +kernel
theorem dX11_copy_45 : decode cX11_copy 45 = .ok (.iload_n 3, 1) := by decide +kernel
theorem dX11_copy_46 : decode cX11_copy 46 = .ok (.invokevirtual 298, 3) := by decide +kernel
theorem dX11_copy_49 : decode cX11_copy 49 = .ok (.astore 7, 2) := by decide +kernel
theorem dX11_copy_51 : decode cX11_copy 51 = .ok (.aload 6, 2) := by decide +kernel
theorem dX11_copy_53 : decode cX11_copy 53 = .ok (.ifnull 21, 3) := by decide +kernel
theorem dX11_copy_56 : decode cX11_copy 56 = .ok (.aload 7, 2) := by decide +kernel
theorem dX11_copy_58 : decode cX11_copy 58 = .ok (.ifnull 16, 3) := by decide +kernel
theorem dX11_copy_61 : decode cX11_copy 61 = .ok (.aload 6, 2) := by decide +kernel
theorem dX11_copy_63 : decode cX11_copy 63 = .ok (.getfield 313, 3) := by decide +kernel
theorem dX11_copy_66 : decode cX11_copy 66 = .ok (.aload 7, 2) := by decide +kernel
theorem dX11_copy_68 : decode cX11_copy 68 = .ok (.getfield 313, 3) := by decide +kernel
theorem dX11_copy_71 : decode cX11_copy 71 = .ok (.if_icmp .eq 6, 3) := by decide +kernel
theorem dX11_copy_74 : decode cX11_copy 74 = .ok (.bipush (-12), 2) := by decide +kernel
theorem dX11_copy_76 : decode cX11_copy 76 = .ok (.ireturn, 1) := by decide +kernel
theorem dX11_copy_77 : decode cX11_copy 77 = .ok (.aload 6, 2) := by decide +kernel
theorem dX11_copy_79 : decode cX11_copy 79 = .ok (.iload_n 2, 1) := by decide +kernel
theorem dX11_copy_80 : decode cX11_copy 80 = .ok (.iload 5, 2) := by decide +kernel
theorem dX11_copy_82 : decode cX11_copy 82 = .ok (.invokevirtual 316, 3) := by decide +kernel
theorem dX11_copy_85 : decode cX11_copy 85 = .ok (.ifCond .eq 15, 3) := by decide +kernel
theorem dX11_copy_88 : decode cX11_copy 88 = .ok (.aload 7, 2) := by decide +kernel
theorem dX11_copy_90 : decode cX11_copy 90 = .ok (.iload 4, 2) := by decide +kernel
theorem dX11_copy_92 : decode cX11_copy 92 = .ok (.iload 5, 2) := by decide +kernel
theorem dX11_copy_94 : decode cX11_copy 94 = .ok (.invokevirtual 316, 3) := by decide +kernel
theorem dX11_copy_97 : decode cX11_copy 97 = .ok (.ifCond .ne 6, 3) := by decide +kernel
theorem dX11_copy_100 : decode cX11_copy 100 = .ok (.bipush (-13), 2) := by decide +kernel
theorem dX11_copy_102 : decode cX11_copy 102 = .ok (.ireturn, 1) := by decide +kernel
theorem dX11_copy_103 : decode cX11_copy 103 = .ok (.aload 6, 2) := by decide +kernel
theorem dX11_copy_105 : decode cX11_copy 105 = .ok (.getfield 307, 3) := by decide +kernel
theorem dX11_copy_108 : decode cX11_copy 108 = .ok (.iload_n 2, 1) := by decide +kernel
theorem dX11_copy_109 : decode cX11_copy 109 = .ok (.aload 7, 2) := by decide +kernel
theorem dX11_copy_111 : decode cX11_copy 111 = .ok (.getfield 307, 3) := by decide +kernel
theorem dX11_copy_114 : decode cX11_copy 114 = .ok (.iload 4, 2) := by decide +kernel
theorem dX11_copy_116 : decode cX11_copy 116 = .ok (.iload 5, 2) := by decide +kernel
theorem dX11_copy_118 : decode cX11_copy 118 = .ok (.invokestatic 171, 3) := by decide +kernel
theorem dX11_copy_121 : decode cX11_copy 121 = .ok (.iload 5, 2) := by decide +kernel
theorem dX11_copy_123 : decode cX11_copy 123 = .ok (.ireturn, 1) := by decide +kernel
set_option maxRecDepth 20000 in
theorem ggX11_weight_X11_isShelf : GoodIn wsX11_weight wsX11_isShelf := goodIn_r _ [5] (by decide +kernel) (by decide +kernel)
set_option maxRecDepth 20000 in
theorem gX11_weight_X11_isShelf : GoodIn wsX11_weight (va_wsS RX11 279 yX11_isShelf wsX11_isShelf) := goodIn_app (goodIn_of _ (by decide +kernel)) ggX11_weight_X11_isShelf
set_option maxRecDepth 20000 in
theorem ggX11_weight_X0_heft : GoodIn wsX11_weight wsX0_heft := goodIn_r _ [11, 12, 13, 14, 15, 16, 17, 18, 19, 20, 21, 22, 23, 24, 25, 26, 27, 28, 29, 10, 30, 31, 32, 33, 34, 35, 36, 37, 38, 39, 40, 41, 97, 98, 99, 100, 101, 102, 103, 104, 105, 106, 107, 108, 109, 110, 111, 112, 113, 114, 115, 116, 117, 118, 119, 120] (by decide +kernel) (by decide +kernel)
set_option maxRecDepth 20000 in
theorem gX11_weight_X0_heft_u319X0 : GoodIn wsX11_weight (va_wsU RX11 319 RX0 "NightBook$Held" ⟨"NightBook$Held", "heft", "()I"⟩ yX0_heft wsX0_heft) := goodIn_app (goodIn_of _ (by decide +kernel)) ggX11_weight_X0_heft
set_option maxRecDepth 20000 in
theorem ggX11_weight_X1_heft : GoodIn wsX11_weight wsX1_heft := goodIn_r _ [45, 46, 47, 48, 49, 50, 51, 52, 53, 121, 122, 123, 124, 125, 126, 127, 128, 129, 130, 131, 132, 133, 134, 135, 136, 137, 138, 139, 140, 141, 142, 143, 144] (by decide +kernel) (by decide +kernel)
set_option maxRecDepth 20000 in
theorem gX11_weight_X1_heft_u319X1 : GoodIn wsX11_weight (va_wsU RX11 319 RX1 "NightBook$Held" ⟨"NightBook$Held", "heft", "()I"⟩ yX1_heft wsX1_heft) := goodIn_app (goodIn_of _ (by decide +kernel)) ggX11_weight_X1_heft
set_option maxRecDepth 20000 in
theorem ggX11_weight_X3_heft : GoodIn wsX11_weight wsX3_heft := goodIn_r _ [56, 57, 58, 59, 19, 60, 21, 22, 23, 24, 25, 26, 27, 28, 29, 10, 30, 31, 32, 33, 34, 35, 36, 37, 16, 38, 39, 40, 41, 97, 98, 99, 100, 101, 102, 103, 104, 105, 106, 107, 108, 109, 110, 111, 112, 113, 114, 115, 116, 117, 118, 119, 120] (by decide +kernel) (by decide +kernel)
set_option maxRecDepth 20000 in
theorem gX11_weight_X3_heft_u319X3 : GoodIn wsX11_weight (va_wsU RX11 319 RX3 "NightBook$Held" ⟨"NightBook$Held", "heft", "()I"⟩ yX3_heft wsX3_heft) := goodIn_app (goodIn_of _ (by decide +kernel)) ggX11_weight_X3_heft
set_option maxRecDepth 20000 in
theorem ggX11_weight_X4_heft : GoodIn wsX11_weight wsX4_heft := goodIn_r _ [64] (by decide +kernel) (by decide +kernel)
set_option maxRecDepth 20000 in
theorem gX11_weight_X4_heft_u319X4 : GoodIn wsX11_weight (va_wsU RX11 319 RX4 "NightBook$Held" ⟨"NightBook$Held", "heft", "()I"⟩ yX4_heft wsX4_heft) := goodIn_app (goodIn_of _ (by decide +kernel)) ggX11_weight_X4_heft
set_option maxRecDepth 20000 in
theorem ggX11_weight_X5_heft : GoodIn wsX11_weight wsX5_heft := goodIn_r _ [51, 52, 53, 121, 122, 123, 124, 125, 126, 127, 128, 129, 130, 131, 132, 133, 134, 135, 136, 137, 138, 139, 140, 141, 142, 143, 144] (by decide +kernel) (by decide +kernel)
set_option maxRecDepth 20000 in
theorem gX11_weight_X5_heft_u319X5 : GoodIn wsX11_weight (va_wsU RX11 319 RX5 "NightBook$Held" ⟨"NightBook$Held", "heft", "()I"⟩ yX5_heft wsX5_heft) := goodIn_app (goodIn_of _ (by decide +kernel)) ggX11_weight_X5_heft
set_option maxRecDepth 20000 in
theorem ggX11_weight_X6_heft : GoodIn wsX11_weight wsX6_heft := goodIn_r _ [69, 70, 47, 71, 49, 50, 51, 52, 53, 121, 122, 123, 124, 125, 126, 127, 128, 129, 130, 131, 132, 133, 134, 135, 136, 137, 138, 139, 140, 141, 142, 143, 144] (by decide +kernel) (by decide +kernel)
set_option maxRecDepth 20000 in
theorem gX11_weight_X6_heft_u319X6 : GoodIn wsX11_weight (va_wsU RX11 319 RX6 "NightBook$Held" ⟨"NightBook$Held", "heft", "()I"⟩ yX6_heft wsX6_heft) := goodIn_app (goodIn_of _ (by decide +kernel)) ggX11_weight_X6_heft
set_option maxRecDepth 20000 in
theorem ggX11_weight_X7_heft : GoodIn wsX11_weight wsX7_heft := goodIn_r _ [17, 18, 19, 20, 21, 22, 23, 24, 25, 26, 27, 28, 29, 10, 30, 31, 32, 33, 34, 35, 36, 37, 16, 38, 39, 40, 41, 97, 98, 99, 100, 101, 102, 103, 104, 105, 106, 107, 108, 109, 110, 111, 112, 113, 114, 115, 116, 117, 118, 119, 120] (by decide +kernel) (by decide +kernel)
set_option maxRecDepth 20000 in
theorem gX11_weight_X7_heft_u319X7 : GoodIn wsX11_weight (va_wsU RX11 319 RX7 "NightBook$Held" ⟨"NightBook$Held", "heft", "()I"⟩ yX7_heft wsX7_heft) := goodIn_app (goodIn_of _ (by decide +kernel)) ggX11_weight_X7_heft
set_option maxRecDepth 20000 in
theorem ggX11_weight_X9_heft : GoodIn wsX11_weight wsX9_heft := goodIn_r _ [23, 24, 25, 26, 27, 28, 29, 10, 30, 31, 32, 33, 34, 35, 36, 37, 16, 38, 39, 40, 41, 22, 97, 98, 99, 100, 101, 102, 103, 104, 105, 106, 107, 108, 109, 110, 111, 112, 113, 114, 115, 116, 117, 118, 119, 120] (by decide +kernel) (by decide +kernel)
set_option maxRecDepth 20000 in
theorem gX11_weight_X9_heft_u319X9 : GoodIn wsX11_weight (va_wsU RX11 319 RX9 "NightBook$Held" ⟨"NightBook$Held", "heft", "()I"⟩ yX9_heft wsX9_heft) := goodIn_app (goodIn_of _ (by decide +kernel)) ggX11_weight_X9_heft
set_option maxRecDepth 20000 in
theorem ggX11_weight_X10_heft : GoodIn wsX11_weight wsX10_heft := goodIn_r _ [77, 78, 79, 80, 43, 44, 45, 46, 47, 48, 49, 50, 51, 52, 53, 121, 122, 123, 124, 125, 126, 127, 128, 129, 130, 131, 132, 133, 134, 135, 136, 137, 138, 139, 140, 141, 142, 143, 144] (by decide +kernel) (by decide +kernel)
set_option maxRecDepth 20000 in
theorem gX11_weight_X10_heft_u319X10 : GoodIn wsX11_weight (va_wsU RX11 319 RX10 "NightBook$Held" ⟨"NightBook$Held", "heft", "()I"⟩ yX10_heft wsX10_heft) := goodIn_app (goodIn_of _ (by decide +kernel)) ggX11_weight_X10_heft
theorem dX11_weight_0 : decode cX11_weight 0 = .ok (.iload_n 1, 1) := by decide +kernel
theorem dX11_weight_1 : decode cX11_weight 1 = .ok (.invokestatic 279, 3) := by decide +kernel
theorem dX11_weight_4 : decode cX11_weight 4 = .ok (.ifCond .ne 5, 3) := by decide +kernel
theorem dX11_weight_7 : decode cX11_weight 7 = .ok (.iconst (-1), 1) := by decide +kernel
theorem dX11_weight_8 : decode cX11_weight 8 = .ok (.ireturn, 1) := by decide +kernel
theorem dX11_weight_9 : decode cX11_weight 9 = .ok (.aload_n 0, 1) := by decide +kernel
theorem dX11_weight_10 : decode cX11_weight 10 = .ok (.getfield 51, 3) := by decide +kernel
theorem dX11_weight_13 : decode cX11_weight 13 = .ok (.iload_n 1, 1) := by decide +kernel
theorem dX11_weight_14 : decode cX11_weight 14 = .ok (.aaload, 1) := by decide +kernel
theorem dX11_weight_15 : decode cX11_weight 15 = .ok (.astore_n 2, 1) := by decide +kernel
theorem dX11_weight_16 : decode cX11_weight 16 = .ok (.aload_n 2, 1) := by decide +kernel
theorem dX11_weight_17 : decode cX11_weight 17 = .ok (.ifnonnull 8, 3) := by decide +kernel
theorem dX11_weight_20 : decode cX11_weight 20 = .ok (.bipush (-11), 2) := by decide +kernel
theorem dX11_weight_22 : decode cX11_weight 22 = .ok (.goto 7, 3) := by decide +kernel
theorem dX11_weight_25 : decode cX11_weight 25 = .ok (.aload_n 2, 1) := by decide +kernel
theorem dX11_weight_26 : decode cX11_weight 26 = .ok (.invokevirtual 319, 3) := by decide +kernel
theorem dX11_weight_29 : decode cX11_weight 29 = .ok (.ireturn, 1) := by decide +kernel
set_option maxRecDepth 20000 in
theorem ggX11_toss_X11_isShelf : GoodIn wsX11_toss wsX11_isShelf := goodIn_r _ [7] (by decide +kernel) (by decide +kernel)
set_option maxRecDepth 20000 in
theorem gX11_toss_X11_isShelf : GoodIn wsX11_toss (va_wsS RX11 279 yX11_isShelf wsX11_isShelf) := goodIn_app (goodIn_of _ (by decide +kernel)) ggX11_toss_X11_isShelf
set_option maxRecDepth 20000 in
theorem ggX11_toss_X9_fail : GoodIn wsX11_toss wsX9_fail := goodIn_ca (goodIn_r _ [14, 15, 16] (by decide +kernel) (by decide +kernel)) (goodIn_sub (fun _ h => List.mem_cons_of_mem _ (List.mem_append_left _ (List.mem_append_right _ h))) (by decide +kernel))
set_option maxRecDepth 20000 in
theorem gX11_toss_X9_fail_u322X0 : GoodIn wsX11_toss (va_wsO RX11 322 RX0 "NightBook$Held" ⟨"NightBook$Held", "fail", "()V"⟩ yX9_fail wsX9_fail) := goodIn_app (goodIn_of _ (by decide +kernel)) ggX11_toss_X9_fail
set_option maxRecDepth 20000 in
theorem ggX11_toss_X5_fail : GoodIn wsX11_toss wsX5_fail := goodIn_ca (goodIn_r _ [21, 22, 16] (by decide +kernel) (by decide +kernel)) (goodIn_sub (fun _ h => List.mem_cons_of_mem _ (List.mem_append_right _ h)) (by decide +kernel))
set_option maxRecDepth 20000 in
theorem gX11_toss_X5_fail_u322X1 : GoodIn wsX11_toss (va_wsO RX11 322 RX1 "NightBook$Held" ⟨"NightBook$Held", "fail", "()V"⟩ yX5_fail wsX5_fail) := goodIn_app (goodIn_of _ (by decide +kernel)) ggX11_toss_X5_fail
set_option maxRecDepth 20000 in
theorem ggX11_toss_X3_fail : GoodIn wsX11_toss wsX3_fail := goodIn_r _ [26] (by decide +kernel) (by decide +kernel)
set_option maxRecDepth 20000 in
theorem gX11_toss_X3_fail_u322X3 : GoodIn wsX11_toss (va_wsO RX11 322 RX3 "NightBook$Held" ⟨"NightBook$Held", "fail", "()V"⟩ yX3_fail wsX3_fail) := goodIn_app (goodIn_of _ (by decide +kernel)) ggX11_toss_X3_fail
set_option maxRecDepth 20000 in
theorem ggX11_toss_X2_fail : GoodIn wsX11_toss wsX2_fail := goodIn_r _ [17] (by decide +kernel) (by decide +kernel)
set_option maxRecDepth 20000 in
theorem gX11_toss_X2_fail_u322X4 : GoodIn wsX11_toss (va_wsU RX11 322 RX4 "NightBook$Held" ⟨"NightBook$Held", "fail", "()V"⟩ yX2_fail wsX2_fail) := goodIn_app (goodIn_of _ (by decide +kernel)) ggX11_toss_X2_fail
set_option maxRecDepth 20000 in
theorem gX11_toss_X5_fail_u322X5 : GoodIn wsX11_toss (va_wsO RX11 322 RX5 "NightBook$Held" ⟨"NightBook$Held", "fail", "()V"⟩ yX5_fail wsX5_fail) := goodIn_app (goodIn_of _ (by decide +kernel)) ggX11_toss_X5_fail
set_option maxRecDepth 20000 in
theorem gX11_toss_X5_fail_u322X6 : GoodIn wsX11_toss (va_wsO RX11 322 RX6 "NightBook$Held" ⟨"NightBook$Held", "fail", "()V"⟩ yX5_fail wsX5_fail) := goodIn_app (goodIn_of _ (by decide +kernel)) ggX11_toss_X5_fail
set_option maxRecDepth 20000 in
theorem gX11_toss_X9_fail_u322X7 : GoodIn wsX11_toss (va_wsO RX11 322 RX7 "NightBook$Held" ⟨"NightBook$Held", "fail", "()V"⟩ yX9_fail wsX9_fail) := goodIn_app (goodIn_of _ (by decide +kernel)) ggX11_toss_X9_fail
set_option maxRecDepth 20000 in
theorem gX11_toss_X9_fail_u322X9 : GoodIn wsX11_toss (va_wsO RX11 322 RX9 "NightBook$Held" ⟨"NightBook$Held", "fail", "()V"⟩ yX9_fail wsX9_fail) := goodIn_app (goodIn_of _ (by decide +kernel)) ggX11_toss_X9_fail
set_option maxRecDepth 20000 in
theorem ggX11_toss_X10_fail : GoodIn wsX11_toss wsX10_fail := goodIn_r _ [37] (by decide +kernel) (by decide +kernel)
set_option maxRecDepth 20000 in
theorem gX11_toss_X10_fail_u322X10 : GoodIn wsX11_toss (va_wsO RX11 322 RX10 "NightBook$Held" ⟨"NightBook$Held", "fail", "()V"⟩ yX10_fail wsX10_fail) := goodIn_app (goodIn_of _ (by decide +kernel)) ggX11_toss_X10_fail
set_option maxRecDepth 20000 in
theorem ggX11_toss_X9_failureNumber : GoodIn wsX11_toss wsX9_failureNumber := goodIn_r _ [43, 44, 74, 75, 76, 77, 78, 79, 80, 81, 82, 83, 84, 85, 86, 87, 88, 89, 90, 91, 92, 93, 94, 95, 96, 97] (by decide +kernel) (by decide +kernel)
set_option maxRecDepth 20000 in
theorem gX11_toss_X9_failureNumber_u325X0 : GoodIn wsX11_toss (va_wsO RX11 325 RX0 "NightBook$Held" ⟨"NightBook$Held", "failureNumber", "()I"⟩ yX9_failureNumber wsX9_failureNumber) := goodIn_app (goodIn_of _ (by decide +kernel)) ggX11_toss_X9_failureNumber
set_option maxRecDepth 20000 in
theorem ggX11_toss_X5_failureNumber : GoodIn wsX11_toss wsX5_failureNumber := goodIn_r _ [48, 49, 98, 99, 100, 101, 102, 103, 104, 105, 106, 107, 108, 109, 110, 111, 112, 113, 114, 115, 116, 117, 118, 119, 120, 121] (by decide +kernel) (by decide +kernel)
set_option maxRecDepth 20000 in
theorem gX11_toss_X5_failureNumber_u325X1 : GoodIn wsX11_toss (va_wsO RX11 325 RX1 "NightBook$Held" ⟨"NightBook$Held", "failureNumber", "()I"⟩ yX5_failureNumber wsX5_failureNumber) := goodIn_app (goodIn_of _ (by decide +kernel)) ggX11_toss_X5_failureNumber
set_option maxRecDepth 20000 in
theorem gX11_toss_X9_failureNumber_u325X3 : GoodIn wsX11_toss (va_wsO RX11 325 RX3 "NightBook$Held" ⟨"NightBook$Held", "failureNumber", "()I"⟩ yX9_failureNumber wsX9_failureNumber) := goodIn_app (goodIn_of _ (by decide +kernel)) ggX11_toss_X9_failureNumber
set_option maxRecDepth 20000 in
theorem ggX11_toss_X2_failureNumber : GoodIn wsX11_toss wsX2_failureNumber := goodIn_r _ [45] (by decide +kernel) (by decide +kernel)
set_option maxRecDepth 20000 in
theorem gX11_toss_X2_failureNumber_u325X4 : GoodIn wsX11_toss (va_wsU RX11 325 RX4 "NightBook$Held" ⟨"NightBook$Held", "failureNumber", "()I"⟩ yX2_failureNumber wsX2_failureNumber) := goodIn_app (goodIn_of _ (by decide +kernel)) ggX11_toss_X2_failureNumber
set_option maxRecDepth 20000 in
theorem gX11_toss_X5_failureNumber_u325X5 : GoodIn wsX11_toss (va_wsO RX11 325 RX5 "NightBook$Held" ⟨"NightBook$Held", "failureNumber", "()I"⟩ yX5_failureNumber wsX5_failureNumber) := goodIn_app (goodIn_of _ (by decide +kernel)) ggX11_toss_X5_failureNumber
set_option maxRecDepth 20000 in
theorem gX11_toss_X5_failureNumber_u325X6 : GoodIn wsX11_toss (va_wsO RX11 325 RX6 "NightBook$Held" ⟨"NightBook$Held", "failureNumber", "()I"⟩ yX5_failureNumber wsX5_failureNumber) := goodIn_app (goodIn_of _ (by decide +kernel)) ggX11_toss_X5_failureNumber
set_option maxRecDepth 20000 in
theorem gX11_toss_X9_failureNumber_u325X7 : GoodIn wsX11_toss (va_wsO RX11 325 RX7 "NightBook$Held" ⟨"NightBook$Held", "failureNumber", "()I"⟩ yX9_failureNumber wsX9_failureNumber) := goodIn_app (goodIn_of _ (by decide +kernel)) ggX11_toss_X9_failureNumber
set_option maxRecDepth 20000 in
theorem gX11_toss_X9_failureNumber_u325X9 : GoodIn wsX11_toss (va_wsO RX11 325 RX9 "NightBook$Held" ⟨"NightBook$Held", "failureNumber", "()I"⟩ yX9_failureNumber wsX9_failureNumber) := goodIn_app (goodIn_of _ (by decide +kernel)) ggX11_toss_X9_failureNumber
set_option maxRecDepth 20000 in
theorem gX11_toss_X5_failureNumber_u325X10 : GoodIn wsX11_toss (va_wsO RX11 325 RX10 "NightBook$Held" ⟨"NightBook$Held", "failureNumber", "()I"⟩ yX5_failureNumber wsX5_failureNumber) := goodIn_app (goodIn_of _ (by decide +kernel)) ggX11_toss_X5_failureNumber
theorem dX11_toss_0 : decode cX11_toss 0 = .ok (.iload_n 1, 1) := by decide +kernel
theorem dX11_toss_1 : decode cX11_toss 1 = .ok (.invokestatic 279, 3) := by decide +kernel
theorem dX11_toss_4 : decode cX11_toss 4 = .ok (.ifCond .ne 5, 3) := by decide +kernel
theorem dX11_toss_7 : decode cX11_toss 7 = .ok (.iconst (-1), 1) := by decide +kernel
theorem dX11_toss_8 : decode cX11_toss 8 = .ok (.ireturn, 1) := by decide +kernel
theorem dX11_toss_9 : decode cX11_toss 9 = .ok (.aload_n 0, 1) := by decide +kernel
theorem dX11_toss_10 : decode cX11_toss 10 = .ok (.getfield 51, 3) := by decide +kernel
theorem dX11_toss_13 : decode cX11_toss 13 = .ok (.iload_n 1, 1) := by decide +kernel
theorem dX11_toss_14 : decode cX11_toss 14 = .ok (.aaload, 1) := by decide +kernel
theorem dX11_toss_15 : decode cX11_toss 15 = .ok (.astore_n 2, 1) := by decide +kernel
theorem dX11_toss_16 : decode cX11_toss 16 = .ok (.aload_n 2, 1) := by decide +kernel
theorem dX11_toss_17 : decode cX11_toss 17 = .ok (.ifnonnull 6, 3) := by decide +kernel
theorem dX11_toss_20 : decode cX11_toss 20 = .ok (.bipush (-11), 2) := by decide +kernel
theorem dX11_toss_22 : decode cX11_toss 22 = .ok (.ireturn, 1) := by decide +kernel
theorem dX11_toss_23 : decode cX11_toss 23 = .ok (.aload_n 2, 1) := by decide +kernel
theorem dX11_toss_24 : decode cX11_toss 24 = .ok (.instanceof 286, 3) := by decide +kernel
theorem dX11_toss_27 : decode cX11_toss 27 = .ok (.ifCond .eq 6, 3) := by decide +kernel
theorem dX11_toss_30 : decode cX11_toss 30 = .ok (.bipush (-12), 2) := by decide +kernel
theorem dX11_toss_32 : decode cX11_toss 32 = .ok (.ireturn, 1) := by decide +kernel
theorem dX11_toss_33 : decode cX11_toss 33 = .ok (.aload_n 2, 1) := by decide +kernel
theorem dX11_toss_34 : decode cX11_toss 34 = .ok (.invokevirtual 322, 3) := by decide +kernel
theorem dX11_toss_37 : decode cX11_toss 37 = .ok (.goto 9, 3) := by decide +kernel
theorem dX11_toss_40 : decode cX11_toss 40 = .ok (.astore_n 3, 1) := by decide +kernel
theorem dX11_toss_41 : decode cX11_toss 41 = .ok (.aload_n 2, 1) := by decide +kernel
theorem dX11_toss_42 : decode cX11_toss 42 = .ok (.invokevirtual 325, 3) := by decide +kernel
theorem dX11_toss_45 : decode cX11_toss 45 = .ok (.ireturn, 1) := by decide +kernel
theorem dX11_toss_46 : decode cX11_toss 46 = .ok (.bipush (-15), 2) := by decide +kernel
theorem dX11_toss_48 : decode cX11_toss 48 = .ok (.ireturn, 1) := by decide +kernel
theorem dX11_rowOn_0 : decode cX11_rowOn 0 = .ok (.aload_n 0, 1) := by decide +kernel
theorem dX11_rowOn_1 : decode cX11_rowOn 1 = .ok (.getfield 51, 3) := by decide +kernel
theorem dX11_rowOn_4 : decode cX11_rowOn 4 = .ok (.iload_n 1, 1) := by decide +kernel
theorem dX11_rowOn_5 : decode cX11_rowOn 5 = .ok (.aaload, 1) := by decide +kernel
theorem dX11_rowOn_6 : decode cX11_rowOn 6 = .ok (.astore_n 3, 1) := by decide +kernel
theorem dX11_rowOn_7 : decode cX11_rowOn 7 = .ok (.aload_n 3, 1) := by decide +kernel
theorem dX11_rowOn_8 : decode cX11_rowOn 8 = .ok (.instanceof 286, 3) := by decide +kernel
theorem dX11_rowOn_11 : decode cX11_rowOn 11 = .ok (.ifCond .eq 12, 3) := by decide +kernel
theorem dX11_rowOn_14 : decode cX11_rowOn 14 = .ok (.aload_n 3, 1) := by decide +kernel
theorem dX11_rowOn_15 : decode cX11_rowOn 15 = .ok (.checkcast 286, 3) := by decide +kernel
theorem dX11_rowOn_18 : decode cX11_rowOn 18 = .ok (.astore_n 2, 1) := by decide +kernel
theorem dX11_rowOn_19 : decode cX11_rowOn 19 = .ok (.aload_n 2, 1) := by decide +kernel
theorem dX11_rowOn_20 : decode cX11_rowOn 20 = .ok (.goto 4, 3) := by decide +kernel
theorem dX11_rowOn_23 : decode cX11_rowOn 23 = .ok (.aconst_null, 1) := by decide +kernel
theorem dX11_rowOn_24 : decode cX11_rowOn 24 = .ok (.areturn, 1) := by decide +kernel
set_option maxRecDepth 20000 in
theorem ggX11_sumYear_X8_sum : GoodIn wsX11_sumYear wsX8_sum := goodIn_r _ [7, 8, 9, 10, 11, 12, 13, 14, 15, 16, 6, 17, 18, 35, 36, 37] (by decide +kernel) (by decide +kernel)
set_option maxRecDepth 20000 in
theorem gX11_sumYear_X8_sum : GoodIn wsX11_sumYear (wsV RX11 137 RX8 yX8_sum wsX8_sum) := goodIn_app (goodIn_of _ (by decide +kernel)) ggX11_sumYear_X8_sum
theorem dX11_sumYear_0 : decode cX11_sumYear 0 = .ok (.iload_n 3, 1) := by decide +kernel
theorem dX11_sumYear_1 : decode cX11_sumYear 1 = .ok (.bipush 100, 2) := by decide +kernel
theorem dX11_sumYear_3 : decode cX11_sumYear 3 = .ok (.imul, 1) := by decide +kernel
theorem dX11_sumYear_4 : decode cX11_sumYear 4 = .ok (.istore 4, 2) := by decide +kernel
theorem dX11_sumYear_6 : decode cX11_sumYear 6 = .ok (.aload_n 0, 1) := by decide +kernel
theorem dX11_sumYear_7 : decode cX11_sumYear 7 = .ok (.getfield 57, 3) := by decide +kernel
theorem dX11_sumYear_10 : decode cX11_sumYear 10 = .ok (.iload_n 1, 1) := by decide +kernel
theorem dX11_sumYear_11 : decode cX11_sumYear 11 = .ok (.aaload, 1) := by decide +kernel
theorem dX11_sumYear_12 : decode cX11_sumYear 12 = .ok (.aload_n 0, 1) := by decide +kernel
theorem dX11_sumYear_13 : decode cX11_sumYear 13 = .ok (.getfield 22, 3) := by decide +kernel
theorem dX11_sumYear_16 : decode cX11_sumYear 16 = .ok (.iload_n 2, 1) := by decide +kernel
theorem dX11_sumYear_17 : decode cX11_sumYear 17 = .ok (.aaload, 1) := by decide +kernel
theorem dX11_sumYear_18 : decode cX11_sumYear 18 = .ok (.iload 4, 2) := by decide +kernel
theorem dX11_sumYear_20 : decode cX11_sumYear 20 = .ok (.iload 4, 2) := by decide +kernel
theorem dX11_sumYear_22 : decode cX11_sumYear 22 = .ok (.bipush 100, 2) := by decide +kernel
theorem dX11_sumYear_24 : decode cX11_sumYear 24 = .ok (.iadd, 1) := by decide +kernel
theorem dX11_sumYear_25 : decode cX11_sumYear 25 = .ok (.iconst 1, 1) := by decide +kernel
theorem dX11_sumYear_26 : decode cX11_sumYear 26 = .ok (.isub, 1) := by decide +kernel
theorem dX11_sumYear_27 : decode cX11_sumYear 27 = .ok (.invokevirtual 137, 3) := by decide +kernel
theorem dX11_sumYear_30 : decode cX11_sumYear 30 = .ok (.return_, 1) := by decide +kernel
set_option maxRecDepth 20000 in
theorem ggX11_areTests_X11_testAt : GoodIn wsX11_areTests wsX11_testAt := goodIn_r _ [4] (by decide +kernel) (by decide +kernel)
set_option maxRecDepth 20000 in
theorem gX11_areTests_X11_testAt : GoodIn wsX11_areTests (va_wsS RX11 328 yX11_testAt wsX11_testAt) := goodIn_app (goodIn_of _ (by decide +kernel)) ggX11_areTests_X11_testAt
theorem dX11_areTests_0 : decode cX11_areTests 0 = .ok (.iload_n 0, 1) := by decide +kernel
theorem dX11_areTests_1 : decode cX11_areTests 1 = .ok (.ifCond .lt 9, 3) := by decide +kernel
theorem dX11_areTests_4 : decode cX11_areTests 4 = .ok (.iload_n 0, 1) := by decide +kernel
theorem dX11_areTests_5 : decode cX11_areTests 5 = .ok (.bipush 64, 2) := by decide +kernel
theorem dX11_areTests_7 : decode cX11_areTests 7 = .ok (.if_icmp .lt 5, 3) := by decide +kernel
theorem dX11_areTests_10 : decode cX11_areTests 10 = .ok (.iconst 0, 1) := by decide +kernel
theorem dX11_areTests_11 : decode cX11_areTests 11 = .ok (.ireturn, 1) := by decide +kernel
theorem dX11_areTests_12 : decode cX11_areTests 12 = .ok (.iconst 0, 1) := by decide +kernel
theorem dX11_areTests_13 : decode cX11_areTests 13 = .ok (.istore_n 1, 1) := by decide +kernel
theorem dX11_areTests_14 : decode cX11_areTests 14 = .ok (.iconst 0, 1) := by decide +kernel
theorem dX11_areTests_15 : decode cX11_areTests 15 = .ok (.istore_n 2, 1) := by decide +kernel
theorem dX11_areTests_16 : decode cX11_areTests 16 = .ok (.iconst 0, 1) := by decide +kernel
theorem dX11_areTests_17 : decode cX11_areTests 17 = .ok (.istore_n 3, 1) := by decide +kernel
theorem dX11_areTests_18 : decode cX11_areTests 18 = .ok (.iload_n 3, 1) := by decide +kernel
theorem dX11_areTests_19 : decode cX11_areTests 19 = .ok (.iconst 3, 1) := by decide +kernel
theorem dX11_areTests_20 : decode cX11_areTests 20 = .ok (.if_icmp .ge 54, 3) := by decide +kernel
theorem dX11_areTests_23 : decode cX11_areTests 23 = .ok (.iload_n 0, 1) := by decide +kernel
theorem dX11_areTests_24 : decode cX11_areTests 24 = .ok (.iload_n 3, 1) := by decide +kernel
theorem dX11_areTests_25 : decode cX11_areTests 25 = .ok (.invokestatic 328, 3) := by decide +kernel
theorem dX11_areTests_28 : decode cX11_areTests 28 = .ok (.istore 4, 2) := by decide +kernel
theorem dX11_areTests_30 : decode cX11_areTests 30 = .ok (.iload 4, 2) := by decide +kernel
theorem dX11_areTests_32 : decode cX11_areTests 32 = .ok (.ifCond .eq 18, 3) := by decide +kernel
theorem dX11_areTests_35 : decode cX11_areTests 35 = .ok (.iload_n 2, 1) := by decide +kernel
theorem dX11_areTests_36 : decode cX11_areTests 36 = .ok (.ifCond .ne 12, 3) := by decide +kernel
theorem dX11_areTests_39 : decode cX11_areTests 39 = .ok (.iload_n 1, 1) := by decide +kernel
theorem dX11_areTests_40 : decode cX11_areTests 40 = .ok (.iload 4, 2) := by decide +kernel
theorem dX11_areTests_42 : decode cX11_areTests 42 = .ok (.ishr, 1) := by decide +kernel
theorem dX11_areTests_43 : decode cX11_areTests 43 = .ok (.iconst 1, 1) := by decide +kernel
theorem dX11_areTests_44 : decode cX11_areTests 44 = .ok (.iand, 1) := by decide +kernel
theorem dX11_areTests_45 : decode cX11_areTests 45 = .ok (.ifCond .eq 5, 3) := by decide +kernel
theorem dX11_areTests_48 : decode cX11_areTests 48 = .ok (.iconst 0, 1) := by decide +kernel
theorem dX11_areTests_49 : decode cX11_areTests 49 = .ok (.ireturn, 1) := by decide +kernel
theorem dX11_areTests_50 : decode cX11_areTests 50 = .ok (.iload 4, 2) := by decide +kernel
theorem dX11_areTests_52 : decode cX11_areTests 52 = .ok (.ifCond .ne 7, 3) := by decide +kernel
theorem dX11_areTests_55 : decode cX11_areTests 55 = .ok (.iconst 1, 1) := by decide +kernel
theorem dX11_areTests_56 : decode cX11_areTests 56 = .ok (.goto 4, 3) := by decide +kernel
theorem dX11_areTests_59 : decode cX11_areTests 59 = .ok (.iconst 0, 1) := by decide +kernel
theorem dX11_areTests_60 : decode cX11_areTests 60 = .ok (.istore_n 2, 1) := by decide +kernel
theorem dX11_areTests_61 : decode cX11_areTests 61 = .ok (.iload_n 1, 1) := by decide +kernel
theorem dX11_areTests_62 : decode cX11_areTests 62 = .ok (.iconst 1, 1) := by decide +kernel
theorem dX11_areTests_63 : decode cX11_areTests 63 = .ok (.iload 4, 2) := by decide +kernel
theorem dX11_areTests_65 : decode cX11_areTests 65 = .ok (.ishl, 1) := by decide +kernel
theorem dX11_areTests_66 : decode cX11_areTests 66 = .ok (.ior, 1) := by decide +kernel
theorem dX11_areTests_67 : decode cX11_areTests 67 = .ok (.istore_n 1, 1) := by decide +kernel
theorem dX11_areTests_68 : decode cX11_areTests 68 = .ok (.iinc 3 1, 3) := by decide +kernel
theorem dX11_areTests_71 : decode cX11_areTests 71 = .ok (.goto (-53), 3) := by decide +kernel
theorem dX11_areTests_74 : decode cX11_areTests 74 = .ok (.iconst 1, 1) := by decide +kernel
theorem dX11_areTests_75 : decode cX11_areTests 75 = .ok (.ireturn, 1) := by decide +kernel
theorem dX11_testAt_0 : decode cX11_testAt 0 = .ok (.iload_n 0, 1) := by decide +kernel
theorem dX11_testAt_1 : decode cX11_testAt 1 = .ok (.iconst 2, 1) := by decide +kernel
theorem dX11_testAt_2 : decode cX11_testAt 2 = .ok (.iload_n 1, 1) := by decide +kernel
theorem dX11_testAt_3 : decode cX11_testAt 3 = .ok (.imul, 1) := by decide +kernel
theorem dX11_testAt_4 : decode cX11_testAt 4 = .ok (.ishr, 1) := by decide +kernel
theorem dX11_testAt_5 : decode cX11_testAt 5 = .ok (.iconst 3, 1) := by decide +kernel
theorem dX11_testAt_6 : decode cX11_testAt 6 = .ok (.iand, 1) := by decide +kernel
theorem dX11_testAt_7 : decode cX11_testAt 7 = .ok (.ireturn, 1) := by decide +kernel
theorem dX11_pairOf_0 : decode cX11_pairOf 0 = .ok (.iload_n 0, 1) := by decide +kernel
theorem dX11_pairOf_1 : decode cX11_pairOf 1 = .ok (.iload_n 1, 1) := by decide +kernel
theorem dX11_pairOf_2 : decode cX11_pairOf 2 = .ok (.invokestatic 177, 3) := by decide +kernel
theorem dX11_pairOf_5 : decode cX11_pairOf 5 = .ok (.bipush 8, 2) := by decide +kernel
theorem dX11_pairOf_7 : decode cX11_pairOf 7 = .ok (.imul, 1) := by decide +kernel
theorem dX11_pairOf_8 : decode cX11_pairOf 8 = .ok (.iload_n 0, 1) := by decide +kernel
theorem dX11_pairOf_9 : decode cX11_pairOf 9 = .ok (.iload_n 1, 1) := by decide +kernel
theorem dX11_pairOf_10 : decode cX11_pairOf 10 = .ok (.invokestatic 182, 3) := by decide +kernel
theorem dX11_pairOf_13 : decode cX11_pairOf 13 = .ok (.iadd, 1) := by decide +kernel
theorem dX11_pairOf_14 : decode cX11_pairOf 14 = .ok (.ireturn, 1) := by decide +kernel
set_option maxRecDepth 20000 in
theorem ggX11_decidedFor_X11_pairOf : GoodIn wsX11_decidedFor wsX11_pairOf := goodIn_r _ [5, 6, 7, 8, 9, 10, 11, 12] (by decide +kernel) (by decide +kernel)
set_option maxRecDepth 20000 in
theorem gX11_decidedFor_X11_pairOf : GoodIn wsX11_decidedFor (va_wsS RX11 260 yX11_pairOf wsX11_pairOf) := goodIn_app (goodIn_of _ (by decide +kernel)) ggX11_decidedFor_X11_pairOf
set_option maxRecDepth 20000 in
theorem ggX11_decidedFor_X11_testAt : GoodIn wsX11_decidedFor wsX11_testAt := goodIn_r _ [15] (by decide +kernel) (by decide +kernel)
set_option maxRecDepth 20000 in
theorem gX11_decidedFor_X11_testAt : GoodIn wsX11_decidedFor (va_wsS RX11 328 yX11_testAt wsX11_testAt) := goodIn_app (goodIn_of _ (by decide +kernel)) ggX11_decidedFor_X11_testAt
set_option maxRecDepth 20000 in
theorem ggX11_decidedFor_X11_winnerBy : GoodIn wsX11_decidedFor wsX11_winnerBy := goodIn_r _ [19, 20, 21, 22, 23, 4, 24, 25, 26, 27, 28, 29, 30, 31, 32, 33, 34, 35, 36, 37, 38, 39, 40, 41, 42, 43, 44, 45, 46, 47, 48, 49, 50] (by decide +kernel) (by decide +kernel)
set_option maxRecDepth 20000 in
theorem gX11_decidedFor_X11_winnerBy : GoodIn wsX11_decidedFor (wsV RX11 331 RX11 yX11_winnerBy wsX11_winnerBy) := goodIn_app (goodIn_of _ (by decide +kernel)) ggX11_decidedFor_X11_winnerBy
theorem dX11_decidedFor_0 : decode cX11_decidedFor 0 = .ok (.aload_n 0, 1) := by decide +kernel
theorem dX11_decidedFor_1 : decode cX11_decidedFor 1 = .ok (.getfield 46, 3) := by decide +kernel
theorem dX11_decidedFor_4 : decode cX11_decidedFor 4 = .ok (.iload_n 1, 1) := by decide +kernel
theorem dX11_decidedFor_5 : decode cX11_decidedFor 5 = .ok (.iload_n 2, 1) := by decide +kernel
theorem dX11_decidedFor_6 : decode cX11_decidedFor 6 = .ok (.invokestatic 260, 3) := by decide +kernel
theorem dX11_decidedFor_9 : decode cX11_decidedFor 9 = .ok (.iaload, 1) := by decide +kernel
theorem dX11_decidedFor_10 : decode cX11_decidedFor 10 = .ok (.istore 4, 2) := by decide +kernel
theorem dX11_decidedFor_12 : decode cX11_decidedFor 12 = .ok (.iload 4, 2) := by decide +kernel
theorem dX11_decidedFor_14 : decode cX11_decidedFor 14 = .ok (.iconst (-1), 1) := by decide +kernel
theorem dX11_decidedFor_15 : decode cX11_decidedFor 15 = .ok (.if_icmp .ne 6, 3) := by decide +kernel
theorem dX11_decidedFor_18 : decode cX11_decidedFor 18 = .ok (.bipush (-2), 2) := by decide +kernel
theorem dX11_decidedFor_20 : decode cX11_decidedFor 20 = .ok (.ireturn, 1) := by decide +kernel
theorem dX11_decidedFor_21 : decode cX11_decidedFor 21 = .ok (.iconst 0, 1) := by decide +kernel
theorem dX11_decidedFor_22 : decode cX11_decidedFor 22 = .ok (.istore 5, 2) := by decide +kernel
theorem dX11_decidedFor_24 : decode cX11_decidedFor 24 = .ok (.iload 5, 2) := by decide +kernel
theorem dX11_decidedFor_26 : decode cX11_decidedFor 26 = .ok (.iconst 3, 1) := by decide +kernel
theorem dX11_decidedFor_27 : decode cX11_decidedFor 27 = .ok (.if_icmp .ge 35, 3) := by decide +kernel
theorem dX11_decidedFor_30 : decode cX11_decidedFor 30 = .ok (.aload_n 0, 1) := by decide +kernel
theorem dX11_decidedFor_31 : decode cX11_decidedFor 31 = .ok (.iload 4, 2) := by decide +kernel
theorem dX11_decidedFor_33 : decode cX11_decidedFor 33 = .ok (.iload 5, 2) := by decide +kernel
theorem dX11_decidedFor_35 : decode cX11_decidedFor 35 = .ok (.invokestatic 328, 3) := by decide +kernel
theorem dX11_decidedFor_38 : decode cX11_decidedFor 38 = .ok (.iload_n 1, 1) := by decide +kernel
theorem dX11_decidedFor_39 : decode cX11_decidedFor 39 = .ok (.iload_n 2, 1) := by decide +kernel
theorem dX11_decidedFor_40 : decode cX11_decidedFor 40 = .ok (.iload_n 3, 1) := by decide +kernel
theorem dX11_decidedFor_41 : decode cX11_decidedFor 41 = .ok (.invokevirtual 331, 3) := by decide +kernel
theorem dX11_decidedFor_44 : decode cX11_decidedFor 44 = .ok (.istore 6, 2) := by decide +kernel
theorem dX11_decidedFor_46 : decode cX11_decidedFor 46 = .ok (.iload 6, 2) := by decide +kernel
theorem dX11_decidedFor_48 : decode cX11_decidedFor 48 = .ok (.bipush (-2), 2) := by decide +kernel
theorem dX11_decidedFor_50 : decode cX11_decidedFor 50 = .ok (.if_icmp .eq 6, 3) := by decide +kernel
theorem dX11_decidedFor_53 : decode cX11_decidedFor 53 = .ok (.iload 6, 2) := by decide +kernel
theorem dX11_decidedFor_55 : decode cX11_decidedFor 55 = .ok (.ireturn, 1) := by decide +kernel
theorem dX11_decidedFor_56 : decode cX11_decidedFor 56 = .ok (.iinc 5 1, 3) := by decide +kernel
theorem dX11_decidedFor_59 : decode cX11_decidedFor 59 = .ok (.goto (-35), 3) := by decide +kernel
theorem dX11_decidedFor_62 : decode cX11_decidedFor 62 = .ok (.bipush (-2), 2) := by decide +kernel
theorem dX11_decidedFor_64 : decode cX11_decidedFor 64 = .ok (.ireturn, 1) := by decide +kernel
set_option maxRecDepth 20000 in
theorem ggX11_winnerBy_X11_oneOfTwo : GoodIn wsX11_winnerBy wsX11_oneOfTwo := goodIn_r _ [6] (by decide +kernel) (by decide +kernel)
set_option maxRecDepth 20000 in
theorem gX11_winnerBy_X11_oneOfTwo : GoodIn wsX11_winnerBy (va_wsS RX11 334 yX11_oneOfTwo wsX11_oneOfTwo) := goodIn_app (goodIn_of _ (by decide +kernel)) ggX11_winnerBy_X11_oneOfTwo
set_option maxRecDepth 20000 in
theorem ggX11_winnerBy_X11_winnerByNights : GoodIn wsX11_winnerBy wsX11_winnerByNights := goodIn_r _ [10, 11, 12, 13, 14, 15, 16, 17, 18, 19, 20, 21, 22, 23, 24, 25, 26, 27, 28, 29, 30, 31, 32] (by decide +kernel) (by decide +kernel)
set_option maxRecDepth 20000 in
theorem gX11_winnerBy_X11_winnerByNights : GoodIn wsX11_winnerBy (wsV RX11 337 RX11 yX11_winnerByNights wsX11_winnerByNights) := goodIn_app (goodIn_of _ (by decide +kernel)) ggX11_winnerBy_X11_winnerByNights
theorem dX11_winnerBy_0 : decode cX11_winnerBy 0 = .ok (.iload_n 1, 1) := by decide +kernel
theorem dX11_winnerBy_1 : decode cX11_winnerBy 1 = .ok (.tableswitch 60 1 3 #[27, 40, 47], 27) := by decide +kernel
theorem dX11_winnerBy_28 : decode cX11_winnerBy 28 = .ok (.aload_n 0, 1) := by decide +kernel
theorem dX11_winnerBy_29 : decode cX11_winnerBy 29 = .ok (.getfield 9, 3) := by decide +kernel
theorem dX11_winnerBy_32 : decode cX11_winnerBy 32 = .ok (.iload 4, 2) := by decide +kernel
theorem dX11_winnerBy_34 : decode cX11_winnerBy 34 = .ok (.iaload, 1) := by decide +kernel
theorem dX11_winnerBy_35 : decode cX11_winnerBy 35 = .ok (.iload_n 2, 1) := by decide +kernel
theorem dX11_winnerBy_36 : decode cX11_winnerBy 36 = .ok (.iload_n 3, 1) := by decide +kernel
theorem dX11_winnerBy_37 : decode cX11_winnerBy 37 = .ok (.invokestatic 334, 3) := by decide +kernel
theorem dX11_winnerBy_40 : decode cX11_winnerBy 40 = .ok (.ireturn, 1) := by decide +kernel
theorem dX11_winnerBy_41 : decode cX11_winnerBy 41 = .ok (.aload_n 0, 1) := by decide +kernel
theorem dX11_winnerBy_42 : decode cX11_winnerBy 42 = .ok (.iload_n 2, 1) := by decide +kernel
theorem dX11_winnerBy_43 : decode cX11_winnerBy 43 = .ok (.iload_n 3, 1) := by decide +kernel
theorem dX11_winnerBy_44 : decode cX11_winnerBy 44 = .ok (.invokevirtual 337, 3) := by decide +kernel
theorem dX11_winnerBy_47 : decode cX11_winnerBy 47 = .ok (.ireturn, 1) := by decide +kernel
theorem dX11_winnerBy_48 : decode cX11_winnerBy 48 = .ok (.aload_n 0, 1) := by decide +kernel
theorem dX11_winnerBy_49 : decode cX11_winnerBy 49 = .ok (.getfield 13, 3) := by decide +kernel
theorem dX11_winnerBy_52 : decode cX11_winnerBy 52 = .ok (.iload 4, 2) := by decide +kernel
theorem dX11_winnerBy_54 : decode cX11_winnerBy 54 = .ok (.iaload, 1) := by decide +kernel
theorem dX11_winnerBy_55 : decode cX11_winnerBy 55 = .ok (.iload_n 2, 1) := by decide +kernel
theorem dX11_winnerBy_56 : decode cX11_winnerBy 56 = .ok (.iload_n 3, 1) := by decide +kernel
theorem dX11_winnerBy_57 : decode cX11_winnerBy 57 = .ok (.invokestatic 334, 3) := by decide +kernel
theorem dX11_winnerBy_60 : decode cX11_winnerBy 60 = .ok (.ireturn, 1) := by decide +kernel
theorem dX11_winnerBy_61 : decode cX11_winnerBy 61 = .ok (.bipush (-2), 2) := by decide +kernel
theorem dX11_winnerBy_63 : decode cX11_winnerBy 63 = .ok (.ireturn, 1) := by decide +kernel
theorem dX11_oneOfTwo_0 : decode cX11_oneOfTwo 0 = .ok (.iload_n 0, 1) := by decide +kernel
theorem dX11_oneOfTwo_1 : decode cX11_oneOfTwo 1 = .ok (.iload_n 1, 1) := by decide +kernel
theorem dX11_oneOfTwo_2 : decode cX11_oneOfTwo 2 = .ok (.if_icmp .eq 8, 3) := by decide +kernel
theorem dX11_oneOfTwo_5 : decode cX11_oneOfTwo 5 = .ok (.iload_n 0, 1) := by decide +kernel
theorem dX11_oneOfTwo_6 : decode cX11_oneOfTwo 6 = .ok (.iload_n 2, 1) := by decide +kernel
theorem dX11_oneOfTwo_7 : decode cX11_oneOfTwo 7 = .ok (.if_icmp .ne 7, 3) := by decide +kernel
theorem dX11_oneOfTwo_10 : decode cX11_oneOfTwo 10 = .ok (.iload_n 0, 1) := by decide +kernel
theorem dX11_oneOfTwo_11 : decode cX11_oneOfTwo 11 = .ok (.goto 5, 3) := by decide +kernel
theorem dX11_oneOfTwo_14 : decode cX11_oneOfTwo 14 = .ok (.bipush (-2), 2) := by decide +kernel
theorem dX11_oneOfTwo_16 : decode cX11_oneOfTwo 16 = .ok (.ireturn, 1) := by decide +kernel
theorem dX11_winnerByNights_0 : decode cX11_winnerByNights 0 = .ok (.aload_n 0, 1) := by decide +kernel
theorem dX11_winnerByNights_1 : decode cX11_winnerByNights 1 = .ok (.getfield 57, 3) := by decide +kernel
theorem dX11_winnerByNights_4 : decode cX11_winnerByNights 4 = .ok (.iload_n 1, 1) := by decide +kernel
theorem dX11_winnerByNights_5 : decode cX11_winnerByNights 5 = .ok (.aaload, 1) := by decide +kernel
theorem dX11_winnerByNights_6 : decode cX11_winnerByNights 6 = .ok (.getfield 144, 3) := by decide +kernel
theorem dX11_winnerByNights_9 : decode cX11_winnerByNights 9 = .ok (.aload_n 0, 1) := by decide +kernel
theorem dX11_winnerByNights_10 : decode cX11_winnerByNights 10 = .ok (.getfield 57, 3) := by decide +kernel
theorem dX11_winnerByNights_13 : decode cX11_winnerByNights 13 = .ok (.iload_n 2, 1) := by decide +kernel
theorem dX11_winnerByNights_14 : decode cX11_winnerByNights 14 = .ok (.aaload, 1) := by decide +kernel
theorem dX11_winnerByNights_15 : decode cX11_winnerByNights 15 = .ok (.getfield 141, 3) := by decide +kernel
theorem dX11_winnerByNights_18 : decode cX11_winnerByNights 18 = .ok (.if_icmp .le 5, 3) := by decide +kernel
theorem dX11_winnerByNights_21 : decode cX11_winnerByNights 21 = .ok (.iload_n 1, 1) := by decide +kernel
theorem dX11_winnerByNights_22 : decode cX11_winnerByNights 22 = .ok (.ireturn, 1) := by decide +kernel
theorem dX11_winnerByNights_23 : decode cX11_winnerByNights 23 = .ok (.aload_n 0, 1) := by decide +kernel
theorem dX11_winnerByNights_24 : decode cX11_winnerByNights 24 = .ok (.getfield 57, 3) := by decide +kernel
theorem dX11_winnerByNights_27 : decode cX11_winnerByNights 27 = .ok (.iload_n 2, 1) := by decide +kernel
theorem dX11_winnerByNights_28 : decode cX11_winnerByNights 28 = .ok (.aaload, 1) := by decide +kernel
theorem dX11_winnerByNights_29 : decode cX11_winnerByNights 29 = .ok (.getfield 144, 3) := by decide +kernel
theorem dX11_winnerByNights_32 : decode cX11_winnerByNights 32 = .ok (.aload_n 0, 1) := by decide +kernel
theorem dX11_winnerByNights_33 : decode cX11_winnerByNights 33 = .ok (.getfield 57, 3) := by decide +kernel
theorem dX11_winnerByNights_36 : decode cX11_winnerByNights 36 = .ok (.iload_n 1, 1) := by decide +kernel
theorem dX11_winnerByNights_37 : decode cX11_winnerByNights 37 = .ok (.aaload, 1) := by decide +kernel
theorem dX11_winnerByNights_38 : decode cX11_winnerByNights 38 = .ok (.getfield 141, 3) := by decide +kernel
theorem dX11_winnerByNights_41 : decode cX11_winnerByNights 41 = .ok (.if_icmp .le 7, 3) := by decide +kernel
theorem dX11_winnerByNights_44 : decode cX11_winnerByNights 44 = .ok (.iload_n 2, 1) := by decide +kernel
theorem dX11_winnerByNights_45 : decode cX11_winnerByNights 45 = .ok (.goto 5, 3) := by decide +kernel
theorem dX11_winnerByNights_48 : decode cX11_winnerByNights 48 = .ok (.bipush (-2), 2) := by decide +kernel
theorem dX11_winnerByNights_50 : decode cX11_winnerByNights 50 = .ok (.ireturn, 1) := by decide +kernel
set_option maxRecDepth 20000 in
theorem ggX11_taxingLand_X11_sumYear : GoodIn wsX11_taxingLand wsX11_sumYear := goodIn_r _ [8, 1, 9, 10, 11, 12, 13, 14, 15, 16, 17, 18, 19, 20, 21, 22, 23, 24, 25, 59, 60, 61, 62, 63, 64, 65, 66, 67, 68, 69, 70, 71, 72, 73, 74, 75, 76, 77] (by decide +kernel) (by decide +kernel)
set_option maxRecDepth 20000 in
theorem gX11_taxingLand_X11_sumYear : GoodIn wsX11_taxingLand (wsV RX11 254 RX11 yX11_sumYear wsX11_sumYear) := goodIn_app (goodIn_of _ (by decide +kernel)) ggX11_taxingLand_X11_sumYear
set_option maxRecDepth 20000 in
theorem ggX11_taxingLand_X11_prevails : GoodIn wsX11_taxingLand wsX11_prevails := goodIn_r _ [29, 30, 31, 32, 7, 33, 34, 35, 36, 37, 38, 39, 19, 40, 41, 18, 20, 42, 43, 44, 45, 46, 47, 48, 49, 50, 51, 52, 53, 54, 55, 56, 57, 1, 2, 58, 59, 60, 61, 62, 63, 64, 65, 66, 67, 68, 69, 70, 71, 72, 73, 74, 75, 76, 77] (by decide +kernel) (by decide +kernel)
set_option maxRecDepth 20000 in
theorem gX11_taxingLand_X11_prevails : GoodIn wsX11_taxingLand (wsV RX11 340 RX11 yX11_prevails wsX11_prevails) := goodIn_app (goodIn_of _ (by decide +kernel)) ggX11_taxingLand_X11_prevails
theorem dX11_taxingLand_0 : decode cX11_taxingLand 0 = .ok (.iconst 0, 1) := by decide +kernel
theorem dX11_taxingLand_1 : decode cX11_taxingLand 1 = .ok (.istore_n 3, 1) := by decide +kernel
theorem dX11_taxingLand_2 : decode cX11_taxingLand 2 = .ok (.iconst 0, 1) := by decide +kernel
theorem dX11_taxingLand_3 : decode cX11_taxingLand 3 = .ok (.istore 4, 2) := by decide +kernel
theorem dX11_taxingLand_5 : decode cX11_taxingLand 5 = .ok (.iload 4, 2) := by decide +kernel
theorem dX11_taxingLand_7 : decode cX11_taxingLand 7 = .ok (.bipush 8, 2) := by decide +kernel
theorem dX11_taxingLand_9 : decode cX11_taxingLand 9 = .ok (.if_icmp .ge 44, 3) := by decide +kernel
theorem dX11_taxingLand_12 : decode cX11_taxingLand 12 = .ok (.aload_n 0, 1) := by decide +kernel
theorem dX11_taxingLand_13 : decode cX11_taxingLand 13 = .ok (.iload 4, 2) := by decide +kernel
theorem dX11_taxingLand_15 : decode cX11_taxingLand 15 = .ok (.iload_n 1, 1) := by decide +kernel
theorem dX11_taxingLand_16 : decode cX11_taxingLand 16 = .ok (.iload_n 2, 1) := by decide +kernel
theorem dX11_taxingLand_17 : decode cX11_taxingLand 17 = .ok (.invokevirtual 254, 3) := by decide +kernel
theorem dX11_taxingLand_20 : decode cX11_taxingLand 20 = .ok (.aload_n 0, 1) := by decide +kernel
theorem dX11_taxingLand_21 : decode cX11_taxingLand 21 = .ok (.getfield 57, 3) := by decide +kernel
theorem dX11_taxingLand_24 : decode cX11_taxingLand 24 = .ok (.iload 4, 2) := by decide +kernel
theorem dX11_taxingLand_26 : decode cX11_taxingLand 26 = .ok (.aaload, 1) := by decide +kernel
theorem dX11_taxingLand_27 : decode cX11_taxingLand 27 = .ok (.getfield 144, 3) := by decide +kernel
theorem dX11_taxingLand_30 : decode cX11_taxingLand 30 = .ok (.aload_n 0, 1) := by decide +kernel
theorem dX11_taxingLand_31 : decode cX11_taxingLand 31 = .ok (.getfield 37, 3) := by decide +kernel
theorem dX11_taxingLand_34 : decode cX11_taxingLand 34 = .ok (.iload 4, 2) := by decide +kernel
theorem dX11_taxingLand_36 : decode cX11_taxingLand 36 = .ok (.iaload, 1) := by decide +kernel
theorem dX11_taxingLand_37 : decode cX11_taxingLand 37 = .ok (.if_icmp .lt 10, 3) := by decide +kernel
theorem dX11_taxingLand_40 : decode cX11_taxingLand 40 = .ok (.iload_n 3, 1) := by decide +kernel
theorem dX11_taxingLand_41 : decode cX11_taxingLand 41 = .ok (.iconst 1, 1) := by decide +kernel
theorem dX11_taxingLand_42 : decode cX11_taxingLand 42 = .ok (.iload 4, 2) := by decide +kernel
theorem dX11_taxingLand_44 : decode cX11_taxingLand 44 = .ok (.ishl, 1) := by decide +kernel
theorem dX11_taxingLand_45 : decode cX11_taxingLand 45 = .ok (.ior, 1) := by decide +kernel
theorem dX11_taxingLand_46 : decode cX11_taxingLand 46 = .ok (.istore_n 3, 1) := by decide +kernel
theorem dX11_taxingLand_47 : decode cX11_taxingLand 47 = .ok (.iinc 4 1, 3) := by decide +kernel
theorem dX11_taxingLand_50 : decode cX11_taxingLand 50 = .ok (.goto (-45), 3) := by decide +kernel
theorem dX11_taxingLand_53 : decode cX11_taxingLand 53 = .ok (.iload_n 3, 1) := by decide +kernel
theorem dX11_taxingLand_54 : decode cX11_taxingLand 54 = .ok (.ifCond .ne 6, 3) := by decide +kernel
theorem dX11_taxingLand_57 : decode cX11_taxingLand 57 = .ok (.bipush (-2), 2) := by decide +kernel
theorem dX11_taxingLand_59 : decode cX11_taxingLand 59 = .ok (.ireturn, 1) := by decide +kernel
theorem dX11_taxingLand_60 : decode cX11_taxingLand 60 = .ok (.iconst 0, 1) := by decide +kernel
theorem dX11_taxingLand_61 : decode cX11_taxingLand 61 = .ok (.istore 4, 2) := by decide +kernel
theorem dX11_taxingLand_63 : decode cX11_taxingLand 63 = .ok (.iload 4, 2) := by decide +kernel
theorem dX11_taxingLand_65 : decode cX11_taxingLand 65 = .ok (.bipush 8, 2) := by decide +kernel
theorem dX11_taxingLand_67 : decode cX11_taxingLand 67 = .ok (.if_icmp .ge 32, 3) := by decide +kernel
theorem dX11_taxingLand_70 : decode cX11_taxingLand 70 = .ok (.iload_n 3, 1) := by decide +kernel
theorem dX11_taxingLand_71 : decode cX11_taxingLand 71 = .ok (.iload 4, 2) := by decide +kernel
theorem dX11_taxingLand_73 : decode cX11_taxingLand 73 = .ok (.ishr, 1) := by decide +kernel
theorem dX11_taxingLand_74 : decode cX11_taxingLand 74 = .ok (.iconst 1, 1) := by decide +kernel
theorem dX11_taxingLand_75 : decode cX11_taxingLand 75 = .ok (.iand, 1) := by decide +kernel
theorem dX11_taxingLand_76 : decode cX11_taxingLand 76 = .ok (.ifCond .eq 17, 3) := by decide +kernel
theorem dX11_taxingLand_79 : decode cX11_taxingLand 79 = .ok (.aload_n 0, 1) := by decide +kernel
theorem dX11_taxingLand_80 : decode cX11_taxingLand 80 = .ok (.iload 4, 2) := by decide +kernel
theorem dX11_taxingLand_82 : decode cX11_taxingLand 82 = .ok (.iload_n 3, 1) := by decide +kernel
theorem dX11_taxingLand_83 : decode cX11_taxingLand 83 = .ok (.iload_n 1, 1) := by decide +kernel
theorem dX11_taxingLand_84 : decode cX11_taxingLand 84 = .ok (.invokevirtual 340, 3) := by decide +kernel
theorem dX11_taxingLand_87 : decode cX11_taxingLand 87 = .ok (.ifCond .eq 6, 3) := by decide +kernel
theorem dX11_taxingLand_90 : decode cX11_taxingLand 90 = .ok (.iload 4, 2) := by decide +kernel
theorem dX11_taxingLand_92 : decode cX11_taxingLand 92 = .ok (.ireturn, 1) := by decide +kernel
theorem dX11_taxingLand_93 : decode cX11_taxingLand 93 = .ok (.iinc 4 1, 3) := by decide +kernel
theorem dX11_taxingLand_96 : decode cX11_taxingLand 96 = .ok (.goto (-33), 3) := by decide +kernel
theorem dX11_taxingLand_99 : decode cX11_taxingLand 99 = .ok (.bipush (-3), 2) := by decide +kernel
theorem dX11_taxingLand_101 : decode cX11_taxingLand 101 = .ok (.ireturn, 1) := by decide +kernel
set_option maxRecDepth 20000 in
theorem ggX11_prevails_X11_decidedFor : GoodIn wsX11_prevails wsX11_decidedFor := goodIn_r _ [5, 6, 7, 8, 4, 9, 10, 11, 12, 13, 14, 15, 16, 17, 18, 19, 20, 21, 22, 23, 24, 25, 26, 27, 28, 29, 30, 31, 32, 33, 34, 35, 36, 37, 38, 39, 40, 41, 42, 43, 44, 45, 46, 47, 48, 49, 50, 51, 52, 53, 54] (by decide +kernel) (by decide +kernel)
set_option maxRecDepth 20000 in
theorem gX11_prevails_X11_decidedFor : GoodIn wsX11_prevails (wsV RX11 266 RX11 yX11_decidedFor wsX11_decidedFor) := goodIn_app (goodIn_of _ (by decide +kernel)) ggX11_prevails_X11_decidedFor
theorem dX11_prevails_0 : decode cX11_prevails 0 = .ok (.iconst 0, 1) := by decide +kernel
theorem dX11_prevails_1 : decode cX11_prevails 1 = .ok (.istore 4, 2) := by decide +kernel
theorem dX11_prevails_3 : decode cX11_prevails 3 = .ok (.iload 4, 2) := by decide +kernel
theorem dX11_prevails_5 : decode cX11_prevails 5 = .ok (.bipush 8, 2) := by decide +kernel
theorem dX11_prevails_7 : decode cX11_prevails 7 = .ok (.if_icmp .ge 38, 3) := by decide +kernel
theorem dX11_prevails_10 : decode cX11_prevails 10 = .ok (.iload 4, 2) := by decide +kernel
theorem dX11_prevails_12 : decode cX11_prevails 12 = .ok (.iload_n 1, 1) := by decide +kernel
theorem dX11_prevails_13 : decode cX11_prevails 13 = .ok (.if_icmp .eq 26, 3) := by decide +kernel
theorem dX11_prevails_16 : decode cX11_prevails 16 = .ok (.iload_n 2, 1) := by decide +kernel
theorem dX11_prevails_17 : decode cX11_prevails 17 = .ok (.iload 4, 2) := by decide +kernel
theorem dX11_prevails_19 : decode cX11_prevails 19 = .ok (.ishr, 1) := by decide +kernel
theorem dX11_prevails_20 : decode cX11_prevails 20 = .ok (.iconst 1, 1) := by decide +kernel
theorem dX11_prevails_21 : decode cX11_prevails 21 = .ok (.iand, 1) := by decide +kernel
theorem dX11_prevails_22 : decode cX11_prevails 22 = .ok (.ifCond .eq 17, 3) := by decide +kernel
theorem dX11_prevails_25 : decode cX11_prevails 25 = .ok (.aload_n 0, 1) := by decide +kernel
theorem dX11_prevails_26 : decode cX11_prevails 26 = .ok (.iload_n 1, 1) := by decide +kernel
theorem dX11_prevails_27 : decode cX11_prevails 27 = .ok (.iload 4, 2) := by decide +kernel
theorem dX11_prevails_29 : decode cX11_prevails 29 = .ok (.iload_n 3, 1) := by decide +kernel
theorem dX11_prevails_30 : decode cX11_prevails 30 = .ok (.invokevirtual 266, 3) := by decide +kernel
theorem dX11_prevails_33 : decode cX11_prevails 33 = .ok (.iload_n 1, 1) := by decide +kernel
theorem dX11_prevails_34 : decode cX11_prevails 34 = .ok (.if_icmp .eq 5, 3) := by decide +kernel
theorem dX11_prevails_37 : decode cX11_prevails 37 = .ok (.iconst 0, 1) := by decide +kernel
theorem dX11_prevails_38 : decode cX11_prevails 38 = .ok (.ireturn, 1) := by decide +kernel
theorem dX11_prevails_39 : decode cX11_prevails 39 = .ok (.iinc 4 1, 3) := by decide +kernel
theorem dX11_prevails_42 : decode cX11_prevails 42 = .ok (.goto (-39), 3) := by decide +kernel
theorem dX11_prevails_45 : decode cX11_prevails 45 = .ok (.iconst 1, 1) := by decide +kernel
theorem dX11_prevails_46 : decode cX11_prevails 46 = .ok (.ireturn, 1) := by decide +kernel
theorem dX11_droppedMarks_0 : decode cX11_droppedMarks 0 = .ok (.iconst 0, 1) := by decide +kernel
theorem dX11_droppedMarks_1 : decode cX11_droppedMarks 1 = .ok (.istore_n 1, 1) := by decide +kernel
theorem dX11_droppedMarks_2 : decode cX11_droppedMarks 2 = .ok (.iconst 0, 1) := by decide +kernel
theorem dX11_droppedMarks_3 : decode cX11_droppedMarks 3 = .ok (.istore_n 2, 1) := by decide +kernel
theorem dX11_droppedMarks_4 : decode cX11_droppedMarks 4 = .ok (.iload_n 2, 1) := by decide +kernel
theorem dX11_droppedMarks_5 : decode cX11_droppedMarks 5 = .ok (.aload_n 0, 1) := by decide +kernel
theorem dX11_droppedMarks_6 : decode cX11_droppedMarks 6 = .ok (.getfield 85, 3) := by decide +kernel
theorem dX11_droppedMarks_9 : decode cX11_droppedMarks 9 = .ok (.if_icmp .ge 30, 3) := by decide +kernel
theorem dX11_droppedMarks_12 : decode cX11_droppedMarks 12 = .ok (.aload_n 0, 1) := by decide +kernel
theorem dX11_droppedMarks_13 : decode cX11_droppedMarks 13 = .ok (.getfield 27, 3) := by decide +kernel
theorem dX11_droppedMarks_16 : decode cX11_droppedMarks 16 = .ok (.iload_n 2, 1) := by decide +kernel
theorem dX11_droppedMarks_17 : decode cX11_droppedMarks 17 = .ok (.aaload, 1) := by decide +kernel
theorem dX11_droppedMarks_18 : decode cX11_droppedMarks 18 = .ok (.astore_n 3, 1) := by decide +kernel
theorem dX11_droppedMarks_19 : decode cX11_droppedMarks 19 = .ok (.aload_n 3, 1) := by decide +kernel
theorem dX11_droppedMarks_20 : decode cX11_droppedMarks 20 = .ok (.ifnull 13, 3) := by decide +kernel
theorem dX11_droppedMarks_23 : decode cX11_droppedMarks 23 = .ok (.aload_n 3, 1) := by decide +kernel
theorem dX11_droppedMarks_24 : decode cX11_droppedMarks 24 = .ok (.getfield 113, 3) := by decide +kernel
theorem dX11_droppedMarks_27 : decode cX11_droppedMarks 27 = .ok (.ifCond .eq 6, 3) := by decide +kernel
theorem dX11_droppedMarks_30 : decode cX11_droppedMarks 30 = .ok (.iinc 1 1, 3) := by decide +kernel
theorem dX11_droppedMarks_33 : decode cX11_droppedMarks 33 = .ok (.iinc 2 1, 3) := by decide +kernel
theorem dX11_droppedMarks_36 : decode cX11_droppedMarks 36 = .ok (.goto (-32), 3) := by decide +kernel
theorem dX11_droppedMarks_39 : decode cX11_droppedMarks 39 = .ok (.iload_n 1, 1) := by decide +kernel
theorem dX11_droppedMarks_40 : decode cX11_droppedMarks 40 = .ok (.ireturn, 1) := by decide +kernel
theorem dX11_joinedPeople_0 : decode cX11_joinedPeople 0 = .ok (.iconst 0, 1) := by decide +kernel
theorem dX11_joinedPeople_1 : decode cX11_joinedPeople 1 = .ok (.istore_n 1, 1) := by decide +kernel
