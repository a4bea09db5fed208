theorem dX11_joinedPeople_2 : decode cX11_joinedPeople 2 = .ok (.iconst 0, 1) := by decide +kernel
theorem dX11_joinedPeople_3 : decode cX11_joinedPeople 3 = .ok (.istore_n 2, 1) := by decide +kernel
theorem dX11_joinedPeople_4 : decode cX11_joinedPeople 4 = .ok (.iload_n 2, 1) := by decide +kernel
theorem dX11_joinedPeople_5 : decode cX11_joinedPeople 5 = .ok (.aload_n 0, 1) := by decide +kernel
theorem dX11_joinedPeople_6 : decode cX11_joinedPeople 6 = .ok (.getfield 74, 3) := by decide +kernel
theorem dX11_joinedPeople_9 : decode cX11_joinedPeople 9 = .ok (.if_icmp .ge 21, 3) := by decide +kernel
theorem dX11_joinedPeople_12 : decode cX11_joinedPeople 12 = .ok (.aload_n 0, 1) := by decide +kernel
theorem dX11_joinedPeople_13 : decode cX11_joinedPeople 13 = .ok (.getfield 16, 3) := by decide +kernel
theorem dX11_joinedPeople_16 : decode cX11_joinedPeople 16 = .ok (.iload_n 2, 1) := by decide +kernel
theorem dX11_joinedPeople_17 : decode cX11_joinedPeople 17 = .ok (.baload, 1) := by decide +kernel
theorem dX11_joinedPeople_18 : decode cX11_joinedPeople 18 = .ok (.ifCond .eq 6, 3) := by decide +kernel
theorem dX11_joinedPeople_21 : decode cX11_joinedPeople 21 = .ok (.iinc 1 1, 3) := by decide +kernel
theorem dX11_joinedPeople_24 : decode cX11_joinedPeople 24 = .ok (.iinc 2 1, 3) := by decide +kernel
theorem dX11_joinedPeople_27 : decode cX11_joinedPeople 27 = .ok (.goto (-23), 3) := by decide +kernel
theorem dX11_joinedPeople_30 : decode cX11_joinedPeople 30 = .ok (.iload_n 1, 1) := by decide +kernel
theorem dX11_joinedPeople_31 : decode cX11_joinedPeople 31 = .ok (.ireturn, 1) := by decide +kernel
set_option maxRecDepth 20000 in
theorem ggX11_wanted_X11_lawAt : GoodIn wsX11_wanted wsX11_lawAt := goodIn_r _ [5, 6, 7, 63, 64, 65, 66, 67, 68, 69, 70, 71, 72, 73, 74, 75, 76, 77, 78] (by decide +kernel) (by decide +kernel)
set_option maxRecDepth 20000 in
theorem gX11_wanted_X11_lawAt : GoodIn wsX11_wanted (wsV RX11 189 RX11 yX11_lawAt wsX11_lawAt) := goodIn_app (goodIn_of _ (by decide +kernel)) ggX11_wanted_X11_lawAt
set_option maxRecDepth 20000 in
theorem ggX11_wanted_X11_markAt : GoodIn wsX11_wanted wsX11_markAt := goodIn_r _ [11, 12, 13, 63, 64, 65, 66, 67, 68, 69, 70, 71, 72, 73, 74, 75, 76, 77, 78] (by decide +kernel) (by decide +kernel)
set_option maxRecDepth 20000 in
theorem gX11_wanted_X11_markAt : GoodIn wsX11_wanted (wsV RX11 109 RX11 yX11_markAt wsX11_markAt) := goodIn_app (goodIn_of _ (by decide +kernel)) ggX11_wanted_X11_markAt
set_option maxRecDepth 20000 in
theorem ggX11_wanted_X11_isPerson : GoodIn wsX11_wanted wsX11_isPerson := goodIn_r _ [17, 18, 63, 64, 65, 66, 67, 68, 69, 70, 71, 72, 73, 74, 75, 76, 77, 78] (by decide +kernel) (by decide +kernel)
set_option maxRecDepth 20000 in
theorem gX11_wanted_X11_isPerson : GoodIn wsX11_wanted (wsV RX11 78 RX11 yX11_isPerson wsX11_isPerson) := goodIn_app (goodIn_of _ (by decide +kernel)) ggX11_wanted_X11_isPerson
set_option maxRecDepth 20000 in
theorem ggX11_wanted_X11_rowOfCans : GoodIn wsX11_wanted wsX11_rowOfCans := goodIn_r _ [22, 23, 24, 25, 26, 27, 28, 29, 30, 31, 32, 33, 34, 35, 36, 37, 38, 39, 40, 41, 42, 43, 79, 80, 63, 64, 65, 66, 67, 68, 69, 70, 71, 72, 73, 74, 75, 76, 77, 78] (by decide +kernel) (by decide +kernel)
set_option maxRecDepth 20000 in
theorem gX11_wanted_X11_rowOfCans : GoodIn wsX11_wanted (wsV RX11 344 RX11 yX11_rowOfCans wsX11_rowOfCans) := goodIn_app (goodIn_of _ (by decide +kernel)) ggX11_wanted_X11_rowOfCans
set_option maxRecDepth 20000 in
theorem ggX11_wanted_X11_rowOfMost : GoodIn wsX11_wanted wsX11_rowOfMost := goodIn_r _ [47, 23, 24, 25, 48, 27, 26, 49, 28, 29, 30, 31, 32, 33, 34, 35, 36, 37, 38, 39, 40, 41, 42, 43, 50, 51, 52, 53, 54, 55, 56, 57, 58, 59, 60, 61, 62, 79, 80, 63, 64, 65, 66, 67, 68, 69, 70, 71, 72, 73, 74, 75, 76, 77, 78, 81, 82, 83] (by decide +kernel) (by decide +kernel)
set_option maxRecDepth 20000 in
theorem gX11_wanted_X11_rowOfMost : GoodIn wsX11_wanted (wsV RX11 347 RX11 yX11_rowOfMost wsX11_rowOfMost) := goodIn_app (goodIn_of _ (by decide +kernel)) ggX11_wanted_X11_rowOfMost
theorem dX11_wanted_0 : decode cX11_wanted 0 = .ok (.iload_n 1, 1) := by decide +kernel
theorem dX11_wanted_1 : decode cX11_wanted 1 = .ok (.tableswitch 79 1 4 #[31, 37, 43, 61], 31) := by decide +kernel
theorem dX11_wanted_32 : decode cX11_wanted 32 = .ok (.aload_n 0, 1) := by decide +kernel
theorem dX11_wanted_33 : decode cX11_wanted 33 = .ok (.iload_n 2, 1) := by decide +kernel
theorem dX11_wanted_34 : decode cX11_wanted 34 = .ok (.invokevirtual 189, 3) := by decide +kernel
theorem dX11_wanted_37 : decode cX11_wanted 37 = .ok (.areturn, 1) := by decide +kernel
theorem dX11_wanted_38 : decode cX11_wanted 38 = .ok (.aload_n 0, 1) := by decide +kernel
theorem dX11_wanted_39 : decode cX11_wanted 39 = .ok (.iload_n 2, 1) := by decide +kernel
theorem dX11_wanted_40 : decode cX11_wanted 40 = .ok (.invokevirtual 109, 3) := by decide +kernel
theorem dX11_wanted_43 : decode cX11_wanted 43 = .ok (.areturn, 1) := by decide +kernel
theorem dX11_wanted_44 : decode cX11_wanted 44 = .ok (.aload_n 0, 1) := by decide +kernel
theorem dX11_wanted_45 : decode cX11_wanted 45 = .ok (.iload_n 2, 1) := by decide +kernel
theorem dX11_wanted_46 : decode cX11_wanted 46 = .ok (.invokevirtual 78, 3) := by decide +kernel
theorem dX11_wanted_49 : decode cX11_wanted 49 = .ok (.ifCond .eq 11, 3) := by decide +kernel
theorem dX11_wanted_52 : decode cX11_wanted 52 = .ok (.aload_n 0, 1) := by decide +kernel
theorem dX11_wanted_53 : decode cX11_wanted 53 = .ok (.iload_n 2, 1) := by decide +kernel
theorem dX11_wanted_54 : decode cX11_wanted 54 = .ok (.invokevirtual 344, 3) := by decide +kernel
theorem dX11_wanted_57 : decode cX11_wanted 57 = .ok (.goto 4, 3) := by decide +kernel
theorem dX11_wanted_60 : decode cX11_wanted 60 = .ok (.aconst_null, 1) := by decide +kernel
theorem dX11_wanted_61 : decode cX11_wanted 61 = .ok (.areturn, 1) := by decide +kernel
theorem dX11_wanted_62 : decode cX11_wanted 62 = .ok (.aload_n 0, 1) := by decide +kernel
theorem dX11_wanted_63 : decode cX11_wanted 63 = .ok (.iload_n 2, 1) := by decide +kernel
theorem dX11_wanted_64 : decode cX11_wanted 64 = .ok (.invokevirtual 78, 3) := by decide +kernel
theorem dX11_wanted_67 : decode cX11_wanted 67 = .ok (.ifCond .eq 11, 3) := by decide +kernel
theorem dX11_wanted_70 : decode cX11_wanted 70 = .ok (.aload_n 0, 1) := by decide +kernel
theorem dX11_wanted_71 : decode cX11_wanted 71 = .ok (.iload_n 2, 1) := by decide +kernel
theorem dX11_wanted_72 : decode cX11_wanted 72 = .ok (.invokevirtual 347, 3) := by decide +kernel
theorem dX11_wanted_75 : decode cX11_wanted 75 = .ok (.goto 4, 3) := by decide +kernel
theorem dX11_wanted_78 : decode cX11_wanted 78 = .ok (.aconst_null, 1) := by decide +kernel
theorem dX11_wanted_79 : decode cX11_wanted 79 = .ok (.areturn, 1) := by decide +kernel
theorem dX11_wanted_80 : decode cX11_wanted 80 = .ok (.aconst_null, 1) := by decide +kernel
theorem dX11_wanted_81 : decode cX11_wanted 81 = .ok (.areturn, 1) := by decide +kernel
set_option maxRecDepth 20000 in
theorem ggX11_rowOfCans_X4_init : GoodIn wsX11_rowOfCans wsX4_init := goodIn_r _ [8, 9, 10, 11, 12, 13, 14, 15, 16, 17, 18, 19, 20, 21, 22, 23] (by decide +kernel) (by decide +kernel)
set_option maxRecDepth 20000 in
theorem gX11_rowOfCans_X4_init : GoodIn wsX11_rowOfCans (wsX4_init) := ggX11_rowOfCans_X4_init
theorem dX11_rowOfCans_0 : decode cX11_rowOfCans 0 = .ok (.new 286, 3) := by decide +kernel
theorem dX11_rowOfCans_3 : decode cX11_rowOfCans 3 = .ok (.dup, 1) := by decide +kernel
theorem dX11_rowOfCans_4 : decode cX11_rowOfCans 4 = .ok (.iconst 0, 1) := by decide +kernel
theorem dX11_rowOfCans_5 : decode cX11_rowOfCans 5 = .ok (.sipush 400, 3) := by decide +kernel
theorem dX11_rowOfCans_8 : decode cX11_rowOfCans 8 = .ok (.invokespecial 288, 3) := by decide +kernel
theorem dX11_rowOfCans_11 : decode cX11_rowOfCans 11 = .ok (.astore_n 2, 1) := by decide +kernel
theorem dX11_rowOfCans_12 : decode cX11_rowOfCans 12 = .ok (.iconst 0, 1) := by decide +kernel
theorem dX11_rowOfCans_13 : decode cX11_rowOfCans 13 = .ok (.istore_n 3, 1) := by decide +kernel
theorem dX11_rowOfCans_14 : decode cX11_rowOfCans 14 = .ok (.iload_n 3, 1) := by decide +kernel
theorem dX11_rowOfCans_15 : decode cX11_rowOfCans 15 = .ok (.sipush 400, 3) := by decide +kernel
theorem dX11_rowOfCans_18 : decode cX11_rowOfCans 18 = .ok (.if_icmp .ge 25, 3) := by decide +kernel
theorem dX11_rowOfCans_21 : decode cX11_rowOfCans 21 = .ok (.aload_n 2, 1) := by decide +kernel
theorem dX11_rowOfCans_22 : decode cX11_rowOfCans 22 = .ok (.getfield 307, 3) := by decide +kernel
theorem dX11_rowOfCans_25 : decode cX11_rowOfCans 25 = .ok (.iload_n 3, 1) := by decide +kernel
theorem dX11_rowOfCans_26 : decode cX11_rowOfCans 26 = .ok (.aload_n 0, 1) := by decide +kernel
theorem dX11_rowOfCans_27 : decode cX11_rowOfCans 27 = .ok (.getfield 22, 3) := by decide +kernel
theorem dX11_rowOfCans_30 : decode cX11_rowOfCans 30 = .ok (.iload_n 1, 1) := by decide +kernel
theorem dX11_rowOfCans_31 : decode cX11_rowOfCans 31 = .ok (.aaload, 1) := by decide +kernel
theorem dX11_rowOfCans_32 : decode cX11_rowOfCans 32 = .ok (.iload_n 3, 1) := by decide +kernel
theorem dX11_rowOfCans_33 : decode cX11_rowOfCans 33 = .ok (.iaload, 1) := by decide +kernel
theorem dX11_rowOfCans_34 : decode cX11_rowOfCans 34 = .ok (.i2b, 1) := by decide +kernel
theorem dX11_rowOfCans_35 : decode cX11_rowOfCans 35 = .ok (.i2s, 1) := by decide +kernel
theorem dX11_rowOfCans_36 : decode cX11_rowOfCans 36 = .ok (.sastore, 1) := by decide +kernel
theorem dX11_rowOfCans_37 : decode cX11_rowOfCans 37 = .ok (.iinc 3 1, 3) := by decide +kernel
theorem dX11_rowOfCans_40 : decode cX11_rowOfCans 40 = .ok (.goto (-26), 3) := by decide +kernel
theorem dX11_rowOfCans_43 : decode cX11_rowOfCans 43 = .ok (.aload_n 2, 1) := by decide +kernel
theorem dX11_rowOfCans_44 : decode cX11_rowOfCans 44 = .ok (.areturn, 1) := by decide +kernel
set_option maxRecDepth 20000 in
theorem ggX11_rowOfMost_X4_init : GoodIn wsX11_rowOfMost wsX4_init := goodIn_r _ [10, 11, 12, 13, 14, 15, 16, 17, 18, 19, 20, 21, 22, 23, 37, 38] (by decide +kernel) (by decide +kernel)
set_option maxRecDepth 20000 in
theorem gX11_rowOfMost_X4_init : GoodIn wsX11_rowOfMost (wsX4_init) := ggX11_rowOfMost_X4_init
set_option maxRecDepth 20000 in
theorem ggX11_rowOfMost_X8_sum : GoodIn wsX11_rowOfMost wsX8_sum := goodIn_r _ [28, 29, 30, 31, 13, 14, 15, 32, 33, 34, 27, 35, 36, 55, 56, 57] (by decide +kernel) (by decide +kernel)
set_option maxRecDepth 20000 in
theorem gX11_rowOfMost_X8_sum : GoodIn wsX11_rowOfMost (wsV RX11 137 RX8 yX8_sum wsX8_sum) := goodIn_app (goodIn_of _ (by decide +kernel)) ggX11_rowOfMost_X8_sum
theorem dX11_rowOfMost_0 : decode cX11_rowOfMost 0 = .ok (.new 286, 3) := by decide +kernel
theorem dX11_rowOfMost_3 : decode cX11_rowOfMost 3 = .ok (.dup, 1) := by decide +kernel
theorem dX11_rowOfMost_4 : decode cX11_rowOfMost 4 = .ok (.iconst 1, 1) := by decide +kernel
theorem dX11_rowOfMost_5 : decode cX11_rowOfMost 5 = .ok (.bipush 8, 2) := by decide +kernel
theorem dX11_rowOfMost_7 : decode cX11_rowOfMost 7 = .ok (.invokespecial 288, 3) := by decide +kernel
theorem dX11_rowOfMost_10 : decode cX11_rowOfMost 10 = .ok (.astore_n 2, 1) := by decide +kernel
theorem dX11_rowOfMost_11 : decode cX11_rowOfMost 11 = .ok (.iconst 0, 1) := by decide +kernel
theorem dX11_rowOfMost_12 : decode cX11_rowOfMost 12 = .ok (.istore_n 3, 1) := by decide +kernel
theorem dX11_rowOfMost_13 : decode cX11_rowOfMost 13 = .ok (.iload_n 3, 1) := by decide +kernel
theorem dX11_rowOfMost_14 : decode cX11_rowOfMost 14 = .ok (.bipush 8, 2) := by decide +kernel
theorem dX11_rowOfMost_16 : decode cX11_rowOfMost 16 = .ok (.if_icmp .ge 44, 3) := by decide +kernel
theorem dX11_rowOfMost_19 : decode cX11_rowOfMost 19 = .ok (.aload_n 0, 1) := by decide +kernel
theorem dX11_rowOfMost_20 : decode cX11_rowOfMost 20 = .ok (.getfield 57, 3) := by decide +kernel
theorem dX11_rowOfMost_23 : decode cX11_rowOfMost 23 = .ok (.iload_n 3, 1) := by decide +kernel
theorem dX11_rowOfMost_24 : decode cX11_rowOfMost 24 = .ok (.aaload, 1) := by decide +kernel
theorem dX11_rowOfMost_25 : decode cX11_rowOfMost 25 = .ok (.aload_n 0, 1) := by decide +kernel
theorem dX11_rowOfMost_26 : decode cX11_rowOfMost 26 = .ok (.getfield 22, 3) := by decide +kernel
theorem dX11_rowOfMost_29 : decode cX11_rowOfMost 29 = .ok (.iload_n 1, 1) := by decide +kernel
theorem dX11_rowOfMost_30 : decode cX11_rowOfMost 30 = .ok (.aaload, 1) := by decide +kernel
theorem dX11_rowOfMost_31 : decode cX11_rowOfMost 31 = .ok (.iconst 0, 1) := by decide +kernel
theorem dX11_rowOfMost_32 : decode cX11_rowOfMost 32 = .ok (.sipush 399, 3) := by decide +kernel
theorem dX11_rowOfMost_35 : decode cX11_rowOfMost 35 = .ok (.invokevirtual 137, 3) := by decide +kernel
theorem dX11_rowOfMost_38 : decode cX11_rowOfMost 38 = .ok (.aload_n 2, 1) := by decide +kernel
theorem dX11_rowOfMost_39 : decode cX11_rowOfMost 39 = .ok (.getfield 307, 3) := by decide +kernel
theorem dX11_rowOfMost_42 : decode cX11_rowOfMost 42 = .ok (.iload_n 3, 1) := by decide +kernel
theorem dX11_rowOfMost_43 : decode cX11_rowOfMost 43 = .ok (.aload_n 0, 1) := by decide +kernel
theorem dX11_rowOfMost_44 : decode cX11_rowOfMost 44 = .ok (.getfield 57, 3) := by decide +kernel
theorem dX11_rowOfMost_47 : decode cX11_rowOfMost 47 = .ok (.iload_n 3, 1) := by decide +kernel
theorem dX11_rowOfMost_48 : decode cX11_rowOfMost 48 = .ok (.aaload, 1) := by decide +kernel
theorem dX11_rowOfMost_49 : decode cX11_rowOfMost 49 = .ok (.getfield 141, 3) := by decide +kernel
theorem dX11_rowOfMost_52 : decode cX11_rowOfMost 52 = .ok (.i2s, 1) := by decide +kernel
theorem dX11_rowOfMost_53 : decode cX11_rowOfMost 53 = .ok (.sastore, 1) := by decide +kernel
theorem dX11_rowOfMost_54 : decode cX11_rowOfMost 54 = .ok (.iinc 3 1, 3) := by decide +kernel
theorem dX11_rowOfMost_57 : decode cX11_rowOfMost 57 = .ok (.goto (-44), 3) := by decide +kernel
theorem dX11_rowOfMost_60 : decode cX11_rowOfMost 60 = .ok (.aload_n 2, 1) := by decide +kernel
theorem dX11_rowOfMost_61 : decode cX11_rowOfMost 61 = .ok (.areturn, 1) := by decide +kernel
theorem dX12_init_0 : decode cX12_init 0 = .ok (.aload_n 0, 1) := by decide +kernel
theorem dX12_init_1 : decode cX12_init 1 = .ok (.invokespecial 1, 3) := by decide +kernel
theorem dX12_init_4 : decode cX12_init 4 = .ok (.aload_n 0, 1) := by decide +kernel
theorem dX12_init_5 : decode cX12_init 5 = .ok (.bipush 6, 2) := by decide +kernel
theorem dX12_init_7 : decode cX12_init 7 = .ok (.newarray .int, 2) := by decide +kernel
theorem dX12_init_9 : decode cX12_init 9 = .ok (.putfield 7, 3) := by decide +kernel
theorem dX12_init_12 : decode cX12_init 12 = .ok (.aload_n 0, 1) := by decide +kernel
theorem dX12_init_13 : decode cX12_init 13 = .ok (.bipush 6, 2) := by decide +kernel
theorem dX12_init_15 : decode cX12_init 15 = .ok (.newarray .int, 2) := by decide +kernel
theorem dX12_init_17 : decode cX12_init 17 = .ok (.putfield 13, 3) := by decide +kernel
theorem dX12_init_20 : decode cX12_init 20 = .ok (.aload_n 0, 1) := by decide +kernel
theorem dX12_init_21 : decode cX12_init 21 = .ok (.bipush 6, 2) := by decide +kernel
theorem dX12_init_23 : decode cX12_init 23 = .ok (.newarray .boolean, 2) := by decide +kernel
theorem dX12_init_25 : decode cX12_init 25 = .ok (.putfield 16, 3) := by decide +kernel
theorem dX12_init_28 : decode cX12_init 28 = .ok (.aload_n 0, 1) := by decide +kernel
theorem dX12_init_29 : decode cX12_init 29 = .ok (.bipush 80, 2) := by decide +kernel
theorem dX12_init_31 : decode cX12_init 31 = .ok (.newarray .int, 2) := by decide +kernel
theorem dX12_init_33 : decode cX12_init 33 = .ok (.putfield 20, 3) := by decide +kernel
theorem dX12_init_36 : decode cX12_init 36 = .ok (.aload_n 0, 1) := by decide +kernel
theorem dX12_init_37 : decode cX12_init 37 = .ok (.bipush 80, 2) := by decide +kernel
theorem dX12_init_39 : decode cX12_init 39 = .ok (.newarray .int, 2) := by decide +kernel
theorem dX12_init_41 : decode cX12_init 41 = .ok (.putfield 23, 3) := by decide +kernel
theorem dX12_init_44 : decode cX12_init 44 = .ok (.aload_n 0, 1) := by decide +kernel
theorem dX12_init_45 : decode cX12_init 45 = .ok (.bipush 80, 2) := by decide +kernel
theorem dX12_init_47 : decode cX12_init 47 = .ok (.newarray .int, 2) := by decide +kernel
theorem dX12_init_49 : decode cX12_init 49 = .ok (.putfield 26, 3) := by decide +kernel
theorem dX12_init_52 : decode cX12_init 52 = .ok (.aload_n 0, 1) := by decide +kernel
theorem dX12_init_53 : decode cX12_init 53 = .ok (.bipush 80, 2) := by decide +kernel
theorem dX12_init_55 : decode cX12_init 55 = .ok (.newarray .int, 2) := by decide +kernel
theorem dX12_init_57 : decode cX12_init 57 = .ok (.putfield 29, 3) := by decide +kernel
theorem dX12_init_60 : decode cX12_init 60 = .ok (.aload_n 0, 1) := by decide +kernel
theorem dX12_init_61 : decode cX12_init 61 = .ok (.bipush 80, 2) := by decide +kernel
theorem dX12_init_63 : decode cX12_init 63 = .ok (.newarray .int, 2) := by decide +kernel
theorem dX12_init_65 : decode cX12_init 65 = .ok (.putfield 32, 3) := by decide +kernel
theorem dX12_init_68 : decode cX12_init 68 = .ok (.aload_n 0, 1) := by decide +kernel
theorem dX12_init_69 : decode cX12_init 69 = .ok (.bipush 80, 2) := by decide +kernel
theorem dX12_init_71 : decode cX12_init 71 = .ok (.newarray .boolean, 2) := by decide +kernel
theorem dX12_init_73 : decode cX12_init 73 = .ok (.putfield 35, 3) := by decide +kernel
theorem dX12_init_76 : decode cX12_init 76 = .ok (.aload_n 0, 1) := by decide +kernel
theorem dX12_init_77 : decode cX12_init 77 = .ok (.sipush 400, 3) := by decide +kernel
theorem dX12_init_80 : decode cX12_init 80 = .ok (.newarray .int, 2) := by decide +kernel
theorem dX12_init_82 : decode cX12_init 82 = .ok (.putfield 38, 3) := by decide +kernel
theorem dX12_init_85 : decode cX12_init 85 = .ok (.aload_n 0, 1) := by decide +kernel
theorem dX12_init_86 : decode cX12_init 86 = .ok (.sipush 3208, 3) := by decide +kernel
theorem dX12_init_89 : decode cX12_init 89 = .ok (.newarray .int, 2) := by decide +kernel
theorem dX12_init_91 : decode cX12_init 91 = .ok (.putfield 41, 3) := by decide +kernel
theorem dX12_init_94 : decode cX12_init 94 = .ok (.aload_n 0, 1) := by decide +kernel
theorem dX12_init_95 : decode cX12_init 95 = .ok (.sipush 3208, 3) := by decide +kernel
theorem dX12_init_98 : decode cX12_init 98 = .ok (.newarray .int, 2) := by decide +kernel
theorem dX12_init_100 : decode cX12_init 100 = .ok (.putfield 44, 3) := by decide +kernel
theorem dX12_init_103 : decode cX12_init 103 = .ok (.aload_n 0, 1) := by decide +kernel
theorem dX12_init_104 : decode cX12_init 104 = .ok (.bipush 80, 2) := by decide +kernel
theorem dX12_init_106 : decode cX12_init 106 = .ok (.newarray .boolean, 2) := by decide +kernel
theorem dX12_init_108 : decode cX12_init 108 = .ok (.putfield 47, 3) := by decide +kernel
theorem dX12_init_111 : decode cX12_init 111 = .ok (.aload_n 0, 1) := by decide +kernel
theorem dX12_init_112 : decode cX12_init 112 = .ok (.bipush 12, 2) := by decide +kernel
theorem dX12_init_114 : decode cX12_init 114 = .ok (.newarray .int, 2) := by decide +kernel
theorem dX12_init_116 : decode cX12_init 116 = .ok (.putfield 50, 3) := by decide +kernel
theorem dX12_init_119 : decode cX12_init 119 = .ok (.aload_n 0, 1) := by decide +kernel
theorem dX12_init_120 : decode cX12_init 120 = .ok (.bipush 12, 2) := by decide +kernel
theorem dX12_init_122 : decode cX12_init 122 = .ok (.newarray .int, 2) := by decide +kernel
theorem dX12_init_124 : decode cX12_init 124 = .ok (.putfield 53, 3) := by decide +kernel
theorem dX12_init_127 : decode cX12_init 127 = .ok (.aload_n 0, 1) := by decide +kernel
theorem dX12_init_128 : decode cX12_init 128 = .ok (.bipush 12, 2) := by decide +kernel
theorem dX12_init_130 : decode cX12_init 130 = .ok (.newarray .int, 2) := by decide +kernel
theorem dX12_init_132 : decode cX12_init 132 = .ok (.putfield 56, 3) := by decide +kernel
theorem dX12_init_135 : decode cX12_init 135 = .ok (.aload_n 0, 1) := by decide +kernel
theorem dX12_init_136 : decode cX12_init 136 = .ok (.bipush 12, 2) := by decide +kernel
theorem dX12_init_138 : decode cX12_init 138 = .ok (.newarray .int, 2) := by decide +kernel
theorem dX12_init_140 : decode cX12_init 140 = .ok (.putfield 59, 3) := by decide +kernel
theorem dX12_init_143 : decode cX12_init 143 = .ok (.aload_n 0, 1) := by decide +kernel
theorem dX12_init_144 : decode cX12_init 144 = .ok (.sipush 400, 3) := by decide +kernel
theorem dX12_init_147 : decode cX12_init 147 = .ok (.newarray .boolean, 2) := by decide +kernel
theorem dX12_init_149 : decode cX12_init 149 = .ok (.putfield 62, 3) := by decide +kernel
theorem dX12_init_152 : decode cX12_init 152 = .ok (.aload_n 0, 1) := by decide +kernel
theorem dX12_init_153 : decode cX12_init 153 = .ok (.bipush 8, 2) := by decide +kernel
theorem dX12_init_155 : decode cX12_init 155 = .ok (.newarray .int, 2) := by decide +kernel
theorem dX12_init_157 : decode cX12_init 157 = .ok (.dup, 1) := by decide +kernel
theorem dX12_init_158 : decode cX12_init 158 = .ok (.iconst 0, 1) := by decide +kernel
theorem dX12_init_159 : decode cX12_init 159 = .ok (.bipush 51, 2) := by decide +kernel
theorem dX12_init_161 : decode cX12_init 161 = .ok (.iastore, 1) := by decide +kernel
theorem dX12_init_162 : decode cX12_init 162 = .ok (.dup, 1) := by decide +kernel
theorem dX12_init_163 : decode cX12_init 163 = .ok (.iconst 1, 1) := by decide +kernel
theorem dX12_init_164 : decode cX12_init 164 = .ok (.bipush 51, 2) := by decide +kernel
theorem dX12_init_166 : decode cX12_init 166 = .ok (.iastore, 1) := by decide +kernel
theorem dX12_init_167 : decode cX12_init 167 = .ok (.dup, 1) := by decide +kernel
theorem dX12_init_168 : decode cX12_init 168 = .ok (.iconst 2, 1) := by decide +kernel
theorem dX12_init_169 : decode cX12_init 169 = .ok (.bipush 51, 2) := by decide +kernel
theorem dX12_init_171 : decode cX12_init 171 = .ok (.iastore, 1) := by decide +kernel
theorem dX12_init_172 : decode cX12_init 172 = .ok (.dup, 1) := by decide +kernel
theorem dX12_init_173 : decode cX12_init 173 = .ok (.iconst 3, 1) := by decide +kernel
theorem dX12_init_174 : decode cX12_init 174 = .ok (.bipush 51, 2) := by decide +kernel
theorem dX12_init_176 : decode cX12_init 176 = .ok (.iastore, 1) := by decide +kernel
theorem dX12_init_177 : decode cX12_init 177 = .ok (.dup, 1) := by decide +kernel
theorem dX12_init_178 : decode cX12_init 178 = .ok (.iconst 4, 1) := by decide +kernel
theorem dX12_init_179 : decode cX12_init 179 = .ok (.bipush 51, 2) := by decide +kernel
theorem dX12_init_181 : decode cX12_init 181 = .ok (.iastore, 1) := by decide +kernel
theorem dX12_init_182 : decode cX12_init 182 = .ok (.dup, 1) := by decide +kernel
theorem dX12_init_183 : decode cX12_init 183 = .ok (.iconst 5, 1) := by decide +kernel
theorem dX12_init_184 : decode cX12_init 184 = .ok (.bipush 51, 2) := by decide +kernel
theorem dX12_init_186 : decode cX12_init 186 = .ok (.iastore, 1) := by decide +kernel
theorem dX12_init_187 : decode cX12_init 187 = .ok (.dup, 1) := by decide +kernel
theorem dX12_init_188 : decode cX12_init 188 = .ok (.bipush 6, 2) := by decide +kernel
theorem dX12_init_190 : decode cX12_init 190 = .ok (.bipush 51, 2) := by decide +kernel
theorem dX12_init_192 : decode cX12_init 192 = .ok (.iastore, 1) := by decide +kernel
theorem dX12_init_193 : decode cX12_init 193 = .ok (.dup, 1) := by decide +kernel
theorem dX12_init_194 : decode cX12_init 194 = .ok (.bipush 7, 2) := by decide +kernel
theorem dX12_init_196 : decode cX12_init 196 = .ok (.bipush 51, 2) := by decide +kernel
theorem dX12_init_198 : decode cX12_init 198 = .ok (.iastore, 1) := by decide +kernel
theorem dX12_init_199 : decode cX12_init 199 = .ok (.putfield 65, 3) := by decide +kernel
theorem dX12_init_202 : decode cX12_init 202 = .ok (.aload_n 0, 1) := by decide +kernel
theorem dX12_init_203 : decode cX12_init 203 = .ok (.bipush 64, 2) := by decide +kernel
theorem dX12_init_205 : decode cX12_init 205 = .ok (.newarray .int, 2) := by decide +kernel
theorem dX12_init_207 : decode cX12_init 207 = .ok (.dup, 1) := by decide +kernel
theorem dX12_init_208 : decode cX12_init 208 = .ok (.iconst 0, 1) := by decide +kernel
theorem dX12_init_209 : decode cX12_init 209 = .ok (.iconst (-1), 1) := by decide +kernel
theorem dX12_init_210 : decode cX12_init 210 = .ok (.iastore, 1) := by decide +kernel
theorem dX12_init_211 : decode cX12_init 211 = .ok (.dup, 1) := by decide +kernel
theorem dX12_init_212 : decode cX12_init 212 = .ok (.iconst 1, 1) := by decide +kernel
theorem dX12_init_213 : decode cX12_init 213 = .ok (.iconst (-1), 1) := by decide +kernel
theorem dX12_init_214 : decode cX12_init 214 = .ok (.iastore, 1) := by decide +kernel
theorem dX12_init_215 : decode cX12_init 215 = .ok (.dup, 1) := by decide +kernel
theorem dX12_init_216 : decode cX12_init 216 = .ok (.iconst 2, 1) := by decide +kernel
theorem dX12_init_217 : decode cX12_init 217 = .ok (.iconst (-1), 1) := by decide +kernel
theorem dX12_init_218 : decode cX12_init 218 = .ok (.iastore, 1) := by decide +kernel
theorem dX12_init_219 : decode cX12_init 219 = .ok (.dup, 1) := by decide +kernel
theorem dX12_init_220 : decode cX12_init 220 = .ok (.iconst 3, 1) := by decide +kernel
theorem dX12_init_221 : decode cX12_init 221 = .ok (.iconst (-1), 1) := by decide +kernel
theorem dX12_init_222 : decode cX12_init 222 = .ok (.iastore, 1) := by decide +kernel
theorem dX12_init_223 : decode cX12_init 223 = .ok (.dup, 1) := by decide +kernel
theorem dX12_init_224 : decode cX12_init 224 = .ok (.iconst 4, 1) := by decide +kernel
theorem dX12_init_225 : decode cX12_init 225 = .ok (.iconst (-1), 1) := by decide +kernel
theorem dX12_init_226 : decode cX12_init 226 = .ok (.iastore, 1) := by decide +kernel
theorem dX12_init_227 : decode cX12_init 227 = .ok (.dup, 1) := by decide +kernel
theorem dX12_init_228 : decode cX12_init 228 = .ok (.iconst 5, 1) := by decide +kernel
theorem dX12_init_229 : decode cX12_init 229 = .ok (.iconst (-1), 1) := by decide +kernel
theorem dX12_init_230 : decode cX12_init 230 = .ok (.iastore, 1) := by decide +kernel
theorem dX12_init_231 : decode cX12_init 231 = .ok (.dup, 1) := by decide +kernel
theorem dX12_init_232 : decode cX12_init 232 = .ok (.bipush 6, 2) := by decide +kernel
theorem dX12_init_234 : decode cX12_init 234 = .ok (.iconst (-1), 1) := by decide +kernel
theorem dX12_init_235 : decode cX12_init 235 = .ok (.iastore, 1) := by decide +kernel
theorem dX12_init_236 : decode cX12_init 236 = .ok (.dup, 1) := by decide +kernel
theorem dX12_init_237 : decode cX12_init 237 = .ok (.bipush 7, 2) := by decide +kernel
theorem dX12_init_239 : decode cX12_init 239 = .ok (.iconst (-1), 1) := by decide +kernel
theorem dX12_init_240 : decode cX12_init 240 = .ok (.iastore, 1) := by decide +kernel
theorem dX12_init_241 : decode cX12_init 241 = .ok (.dup, 1) := by decide +kernel
theorem dX12_init_242 : decode cX12_init 242 = .ok (.bipush 8, 2) := by decide +kernel
theorem dX12_init_244 : decode cX12_init 244 = .ok (.iconst (-1), 1) := by decide +kernel
theorem dX12_init_245 : decode cX12_init 245 = .ok (.iastore, 1) := by decide +kernel
theorem dX12_init_246 : decode cX12_init 246 = .ok (.dup, 1) := by decide +kernel
theorem dX12_init_247 : decode cX12_init 247 = .ok (.bipush 9, 2) := by decide +kernel
theorem dX12_init_249 : decode cX12_init 249 = .ok (.iconst (-1), 1) := by decide +kernel
theorem dX12_init_250 : decode cX12_init 250 = .ok (.iastore, 1) := by decide +kernel
theorem dX12_init_251 : decode cX12_init 251 = .ok (.dup, 1) := by decide +kernel
theorem dX12_init_252 : decode cX12_init 252 = .ok (.bipush 10, 2) := by decide +kernel
theorem dX12_init_254 : decode cX12_init 254 = .ok (.iconst (-1), 1) := by decide +kernel
theorem dX12_init_255 : decode cX12_init 255 = .ok (.iastore, 1) := by decide +kernel
theorem dX12_init_256 : decode cX12_init 256 = .ok (.dup, 1) := by decide +kernel
theorem dX12_init_257 : decode cX12_init 257 = .ok (.bipush 11, 2) := by decide +kernel
theorem dX12_init_259 : decode cX12_init 259 = .ok (.iconst (-1), 1) := by decide +kernel
theorem dX12_init_260 : decode cX12_init 260 = .ok (.iastore, 1) := by decide +kernel
theorem dX12_init_261 : decode cX12_init 261 = .ok (.dup, 1) := by decide +kernel
theorem dX12_init_262 : decode cX12_init 262 = .ok (.bipush 12, 2) := by decide +kernel
theorem dX12_init_264 : decode cX12_init 264 = .ok (.iconst (-1), 1) := by decide +kernel
theorem dX12_init_265 : decode cX12_init 265 = .ok (.iastore, 1) := by decide +kernel
theorem dX12_init_266 : decode cX12_init 266 = .ok (.dup, 1) := by decide +kernel
theorem dX12_init_267 : decode cX12_init 267 = .ok (.bipush 13, 2) := by decide +kernel
theorem dX12_init_269 : decode cX12_init 269 = .ok (.iconst (-1), 1) := by decide +kernel
theorem dX12_init_270 : decode cX12_init 270 = .ok (.iastore, 1) := by decide +kernel
theorem dX12_init_271 : decode cX12_init 271 = .ok (.dup, 1) := by decide +kernel
theorem dX12_init_272 : decode cX12_init 272 = .ok (.bipush 14, 2) := by decide +kernel
theorem dX12_init_274 : decode cX12_init 274 = .ok (.iconst (-1), 1) := by decide +kernel
theorem dX12_init_275 : decode cX12_init 275 = .ok (.iastore, 1) := by decide +kernel
theorem dX12_init_276 : decode cX12_init 276 = .ok (.dup, 1) := by decide +kernel
theorem dX12_init_277 : decode cX12_init 277 = .ok (.bipush 15, 2) := by decide +kernel
theorem dX12_init_279 : decode cX12_init 279 = .ok (.iconst (-1), 1) := by decide +kernel
theorem dX12_init_280 : decode cX12_init 280 = .ok (.iastore, 1) := by decide +kernel
theorem dX12_init_281 : decode cX12_init 281 = .ok (.dup, 1) := by decide +kernel
theorem dX12_init_282 : decode cX12_init 282 = .ok (.bipush 16, 2) := by decide +kernel
theorem dX12_init_284 : decode cX12_init 284 = .ok (.iconst (-1), 1) := by decide +kernel
theorem dX12_init_285 : decode cX12_init 285 = .ok (.iastore, 1) := by decide +kernel
theorem dX12_init_286 : decode cX12_init 286 = .ok (.dup, 1) := by decide +kernel
theorem dX12_init_287 : decode cX12_init 287 = .ok (.bipush 17, 2) := by decide +kernel
theorem dX12_init_289 : decode cX12_init 289 = .ok (.iconst (-1), 1) := by decide +kernel
theorem dX12_init_290 : decode cX12_init 290 = .ok (.iastore, 1) := by decide +kernel
theorem dX12_init_291 : decode cX12_init 291 = .ok (.dup, 1) := by decide +kernel
theorem dX12_init_292 : decode cX12_init 292 = .ok (.bipush 18, 2) := by decide +kernel
theorem dX12_init_294 : decode cX12_init 294 = .ok (.iconst (-1), 1) := by decide +kernel
theorem dX12_init_295 : decode cX12_init 295 = .ok (.iastore, 1) := by decide +kernel
theorem dX12_init_296 : decode cX12_init 296 = .ok (.dup, 1) := by decide +kernel
theorem dX12_init_297 : decode cX12_init 297 = .ok (.bipush 19, 2) := by decide +kernel
theorem dX12_init_299 : decode cX12_init 299 = .ok (.iconst (-1), 1) := by decide +kernel
theorem dX12_init_300 : decode cX12_init 300 = .ok (.iastore, 1) := by decide +kernel
theorem dX12_init_301 : decode cX12_init 301 = .ok (.dup, 1) := by decide +kernel
theorem dX12_init_302 : decode cX12_init 302 = .ok (.bipush 20, 2) := by decide +kernel
theorem dX12_init_304 : decode cX12_init 304 = .ok (.iconst (-1), 1) := by decide +kernel
theorem dX12_init_305 : decode cX12_init 305 = .ok (.iastore, 1) := by decide +kernel
theorem dX12_init_306 : decode cX12_init 306 = .ok (.dup, 1) := by decide +kernel
theorem dX12_init_307 : decode cX12_init 307 = .ok (.bipush 21, 2) := by decide +kernel
theorem dX12_init_309 : decode cX12_init 309 = .ok (.iconst (-1), 1) := by decide +kernel
theorem dX12_init_310 : decode cX12_init 310 = .ok (.iastore, 1) := by decide +kernel
theorem dX12_init_311 : decode cX12_init 311 = .ok (.dup, 1) := by decide +kernel
theorem dX12_init_312 : decode cX12_init 312 = .ok (.bipush 22, 2) := by decide +kernel
theorem dX12_init_314 : decode cX12_init 314 = .ok (.iconst (-1), 1) := by decide +kernel
theorem dX12_init_315 : decode cX12_init 315 = .ok (.iastore, 1) := by decide +kernel
theorem dX12_init_316 : decode cX12_init 316 = .ok (.dup, 1) := by decide +kernel
theorem dX12_init_317 : decode cX12_init 317 = .ok (.bipush 23, 2) := by decide +kernel
theorem dX12_init_319 : decode cX12_init 319 = .ok (.iconst (-1), 1) := by decide +kernel
theorem dX12_init_320 : decode cX12_init 320 = .ok (.iastore, 1) := by decide +kernel
theorem dX12_init_321 : decode cX12_init 321 = .ok (.dup, 1) := by decide +kernel
theorem dX12_init_322 : decode cX12_init 322 = .ok (.bipush 24, 2) := by decide +kernel
theorem dX12_init_324 : decode cX12_init 324 = .ok (.iconst (-1), 1) := by decide +kernel
theorem dX12_init_325 : decode cX12_init 325 = .ok (.iastore, 1) := by decide +kernel
theorem dX12_init_326 : decode cX12_init 326 = .ok (.dup, 1) := by decide +kernel
theorem dX12_init_327 : decode cX12_init 327 = .ok (.bipush 25, 2) := by decide +kernel
theorem dX12_init_329 : decode cX12_init 329 = .ok (.iconst (-1), 1) := by decide +kernel
theorem dX12_init_330 : decode cX12_init 330 = .ok (.iastore, 1) := by decide +kernel
theorem dX12_init_331 : decode cX12_init 331 = .ok (.dup, 1) := by decide +kernel
theorem dX12_init_332 : decode cX12_init 332 = .ok (.bipush 26, 2) := by decide +kernel
theorem dX12_init_334 : decode cX12_init 334 = .ok (.iconst (-1), 1) := by decide +kernel
theorem dX12_init_335 : decode cX12_init 335 = .ok (.iastore, 1) := by decide +kernel
theorem dX12_init_336 : decode cX12_init 336 = .ok (.dup, 1) := by decide +kernel
theorem dX12_init_337 : decode cX12_init 337 = .ok (.bipush 27, 2) := by decide +kernel
theorem dX12_init_339 : decode cX12_init 339 = .ok (.iconst (-1), 1) := by decide +kernel
theorem dX12_init_340 : decode cX12_init 340 = .ok (.iastore, 1) := by decide +kernel
theorem dX12_init_341 : decode cX12_init 341 = .ok (.dup, 1) := by decide +kernel
theorem dX12_init_342 : decode cX12_init 342 = .ok (.bipush 28, 2) := by decide +kernel
theorem dX12_init_344 : decode cX12_init 344 = .ok (.iconst (-1), 1) := by decide +kernel
theorem dX12_init_345 : decode cX12_init 345 = .ok (.iastore, 1) := by decide +kernel
theorem dX12_init_346 : decode cX12_init 346 = .ok (.dup, 1) := by decide +kernel
theorem dX12_init_347 : decode cX12_init 347 = .ok (.bipush 29, 2) := by decide +kernel
theorem dX12_init_349 : decode cX12_init 349 = .ok (.iconst (-1), 1) := by decide +kernel
theorem dX12_init_350 : decode cX12_init 350 = .ok (.iastore, 1) := by decide +kernel
theorem dX12_init_351 : decode cX12_init 351 = .ok (.dup, 1) := by decide +kernel
theorem dX12_init_352 : decode cX12_init 352 = .ok (.bipush 30, 2) := by decide +kernel
theorem dX12_init_354 : decode cX12_init 354 = .ok (.iconst (-1), 1) := by decide +kernel
theorem dX12_init_355 : decode cX12_init 355 = .ok (.iastore, 1) := by decide +kernel
theorem dX12_init_356 : decode cX12_init 356 = .ok (.dup, 1) := by decide +kernel
theorem dX12_init_357 : decode cX12_init 357 = .ok (.bipush 31, 2) := by decide +kernel
theorem dX12_init_359 : decode cX12_init 359 = .ok (.iconst (-1), 1) := by decide +kernel
theorem dX12_init_360 : decode cX12_init 360 = .ok (.iastore, 1) := by decide +kernel
theorem dX12_init_361 : decode cX12_init 361 = .ok (.dup, 1) := by decide +kernel
theorem dX12_init_362 : decode cX12_init 362 = .ok (.bipush 32, 2) := by decide +kernel
theorem dX12_init_364 : decode cX12_init 364 = .ok (.iconst (-1), 1) := by decide +kernel
theorem dX12_init_365 : decode cX12_init 365 = .ok (.iastore, 1) := by decide +kernel
theorem dX12_init_366 : decode cX12_init 366 = .ok (.dup, 1) := by decide +kernel
theorem dX12_init_367 : decode cX12_init 367 = .ok (.bipush 33, 2) := by decide +kernel
theorem dX12_init_369 : decode cX12_init 369 = .ok (.iconst (-1), 1) := by decide +kernel
theorem dX12_init_370 : decode cX12_init 370 = .ok (.iastore, 1) := by decide +kernel
theorem dX12_init_371 : decode cX12_init 371 = .ok (.dup, 1) := by decide +kernel
theorem dX12_init_372 : decode cX12_init 372 = .ok (.bipush 34, 2) := by decide +kernel
theorem dX12_init_374 : decode cX12_init 374 = .ok (.iconst (-1), 1) := by decide +kernel
theorem dX12_init_375 : decode cX12_init 375 = .ok (.iastore, 1) := by decide +kernel
theorem dX12_init_376 : decode cX12_init 376 = .ok (.dup, 1) := by decide +kernel
theorem dX12_init_377 : decode cX12_init 377 = .ok (.bipush 35, 2) := by decide +kernel
theorem dX12_init_379 : decode cX12_init 379 = .ok (.iconst (-1), 1) := by decide +kernel
theorem dX12_init_380 : decode cX12_init 380 = .ok (.iastore, 1) := by decide +kernel
theorem dX12_init_381 : decode cX12_init 381 = .ok (.dup, 1) := by decide +kernel
theorem dX12_init_382 : decode cX12_init 382 = .ok (.bipush 36, 2) := by decide +kernel
theorem dX12_init_384 : decode cX12_init 384 = .ok (.iconst (-1), 1) := by decide +kernel
theorem dX12_init_385 : decode cX12_init 385 = .ok (.iastore, 1) := by decide +kernel
theorem dX12_init_386 : decode cX12_init 386 = .ok (.dup, 1) := by decide +kernel
theorem dX12_init_387 : decode cX12_init 387 = .ok (.bipush 37, 2) := by decide +kernel
theorem dX12_init_389 : decode cX12_init 389 = .ok (.iconst (-1), 1) := by decide +kernel
theorem dX12_init_390 : decode cX12_init 390 = .ok (.iastore, 1) := by decide +kernel
theorem dX12_init_391 : decode cX12_init 391 = .ok (.dup, 1) := by decide +kernel
theorem dX12_init_392 : decode cX12_init 392 = .ok (.bipush 38, 2) := by decide +kernel
theorem dX12_init_394 : decode cX12_init 394 = .ok (.iconst (-1), 1) := by decide +kernel
theorem dX12_init_395 : decode cX12_init 395 = .ok (.iastore, 1) := by decide +kernel
theorem dX12_init_396 : decode cX12_init 396 = .ok (.dup, 1) := by decide +kernel
theorem dX12_init_397 : decode cX12_init 397 = .ok (.bipush 39, 2) := by decide +kernel
theorem dX12_init_399 : decode cX12_init 399 = .ok (.iconst (-1), 1) := by decide +kernel
theorem dX12_init_400 : decode cX12_init 400 = .ok (.iastore, 1) := by decide +kernel
theorem dX12_init_401 : decode cX12_init 401 = .ok (.dup, 1) := by decide +kernel
theorem dX12_init_402 : decode cX12_init 402 = .ok (.bipush 40, 2) := by decide +kernel
theorem dX12_init_404 : decode cX12_init 404 = .ok (.iconst (-1), 1) := by decide +kernel
theorem dX12_init_405 : decode cX12_init 405 = .ok (.iastore, 1) := by decide +kernel
theorem dX12_init_406 : decode cX12_init 406 = .ok (.dup, 1) := by decide +kernel
theorem dX12_init_407 : decode cX12_init 407 = .ok (.bipush 41, 2) := by decide +kernel
theorem dX12_init_409 : decode cX12_init 409 = .ok (.iconst (-1), 1) := by decide +kernel
theorem dX12_init_410 : decode cX12_init 410 = .ok (.iastore, 1) := by decide +kernel
theorem dX12_init_411 : decode cX12_init 411 = .ok (.dup, 1) := by decide +kernel
theorem dX12_init_412 : decode cX12_init 412 = .ok (.bipush 42, 2) := by decide +kernel
theorem dX12_init_414 : decode cX12_init 414 = .ok (.iconst (-1), 1) := by decide +kernel
theorem dX12_init_415 : decode cX12_init 415 = .ok (.iastore, 1) := by decide +kernel
theorem dX12_init_416 : decode cX12_init 416 = .ok (.dup, 1) := by decide +kernel
theorem dX12_init_417 : decode cX12_init 417 = .ok (.bipush 43, 2) := by decide +kernel
theorem dX12_init_419 : decode cX12_init 419 = .ok (.iconst (-1), 1) := by decide +kernel
theorem dX12_init_420 : decode cX12_init 420 = .ok (.iastore, 1) := by decide +kernel
theorem dX12_init_421 : decode cX12_init 421 = .ok (.dup, 1) := by decide +kernel
theorem dX12_init_422 : decode cX12_init 422 = .ok (.bipush 44, 2) := by decide +kernel
theorem dX12_init_424 : decode cX12_init 424 = .ok (.iconst (-1), 1) := by decide +kernel
theorem dX12_init_425 : decode cX12_init 425 = .ok (.iastore, 1) := by decide +kernel
theorem dX12_init_426 : decode cX12_init 426 = .ok (.dup, 1) := by decide +kernel
theorem dX12_init_427 : decode cX12_init 427 = .ok (.bipush 45, 2) := by decide +kernel
theorem dX12_init_429 : decode cX12_init 429 = .ok (.iconst (-1), 1) := by decide +kernel
theorem dX12_init_430 : decode cX12_init 430 = .ok (.iastore, 1) := by decide +kernel
theorem dX12_init_431 : decode cX12_init 431 = .ok (.dup, 1) := by decide +kernel
theorem dX12_init_432 : decode cX12_init 432 = .ok (.bipush 46, 2) := by decide +kernel
theorem dX12_init_434 : decode cX12_init 434 = .ok (.iconst (-1), 1) := by decide +kernel
theorem dX12_init_435 : decode cX12_init 435 = .ok (.iastore, 1) := by decide +kernel
theorem dX12_init_436 : decode cX12_init 436 = .ok (.dup, 1) := by decide +kernel
theorem dX12_init_437 : decode cX12_init 437 = .ok (.bipush 47, 2) := by decide +kernel
theorem dX12_init_439 : decode cX12_init 439 = .ok (.iconst (-1), 1) := by decide +kernel
theorem dX12_init_440 : decode cX12_init 440 = .ok (.iastore, 1) := by decide +kernel
theorem dX12_init_441 : decode cX12_init 441 = .ok (.dup, 1) := by decide +kernel
theorem dX12_init_442 : decode cX12_init 442 = .ok (.bipush 48, 2) := by decide +kernel
theorem dX12_init_444 : decode cX12_init 444 = .ok (.iconst (-1), 1) := by decide +kernel
theorem dX12_init_445 : decode cX12_init 445 = .ok (.iastore, 1) := by decide +kernel
theorem dX12_init_446 : decode cX12_init 446 = .ok (.dup, 1) := by decide +kernel
theorem dX12_init_447 : decode cX12_init 447 = .ok (.bipush 49, 2) := by decide +kernel
theorem dX12_init_449 : decode cX12_init 449 = .ok (.iconst (-1), 1) := by decide +kernel
theorem dX12_init_450 : decode cX12_init 450 = .ok (.iastore, 1) := by decide +kernel
theorem dX12_init_451 : decode cX12_init 451 = .ok (.dup, 1) := by decide +kernel
theorem dX12_init_452 : decode cX12_init 452 = .ok (.bipush 50, 2) := by decide +kernel
theorem dX12_init_454 : decode cX12_init 454 = .ok (.iconst (-1), 1) := by decide +kernel
theorem dX12_init_455 : decode cX12_init 455 = .ok (.iastore, 1) := by decide +kernel
theorem dX12_init_456 : decode cX12_init 456 = .ok (.dup, 1) := by decide +kernel
theorem dX12_init_457 : decode cX12_init 457 = .ok (.bipush 51, 2) := by decide +kernel
theorem dX12_init_459 : decode cX12_init 459 = .ok (.iconst (-1), 1) := by decide +kernel
theorem dX12_init_460 : decode cX12_init 460 = .ok (.iastore, 1) := by decide +kernel
theorem dX12_init_461 : decode cX12_init 461 = .ok (.dup, 1) := by decide +kernel
theorem dX12_init_462 : decode cX12_init 462 = .ok (.bipush 52, 2) := by decide +kernel
theorem dX12_init_464 : decode cX12_init 464 = .ok (.iconst (-1), 1) := by decide +kernel
theorem dX12_init_465 : decode cX12_init 465 = .ok (.iastore, 1) := by decide +kernel
theorem dX12_init_466 : decode cX12_init 466 = .ok (.dup, 1) := by decide +kernel
theorem dX12_init_467 : decode cX12_init 467 = .ok (.bipush 53, 2) := by decide +kernel
theorem dX12_init_469 : decode cX12_init 469 = .ok (.iconst (-1), 1) := by decide +kernel
theorem dX12_init_470 : decode cX12_init 470 = .ok (.iastore, 1) := by decide +kernel
theorem dX12_init_471 : decode cX12_init 471 = .ok (.dup, 1) := by decide +kernel
theorem dX12_init_472 : decode cX12_init 472 = .ok (.bipush 54, 2) := by decide +kernel
theorem dX12_init_474 : decode cX12_init 474 = .ok (.iconst (-1), 1) := by decide +kernel
theorem dX12_init_475 : decode cX12_init 475 = .ok (.iastore, 1) := by decide +kernel
theorem dX12_init_476 : decode cX12_init 476 = .ok (.dup, 1) := by decide +kernel
theorem dX12_init_477 : decode cX12_init 477 = .ok (.bipush 55, 2) := by decide +kernel
theorem dX12_init_479 : decode cX12_init 479 = .ok (.iconst (-1), 1) := by decide +kernel
theorem dX12_init_480 : decode cX12_init 480 = .ok (.iastore, 1) := by decide +kernel
theorem dX12_init_481 : decode cX12_init 481 = .ok (.dup, 1) := by decide +kernel
theorem dX12_init_482 : decode cX12_init 482 = .ok (.bipush 56, 2) := by decide +kernel
theorem dX12_init_484 : decode cX12_init 484 = .ok (.iconst (-1), 1) := by decide +kernel
theorem dX12_init_485 : decode cX12_init 485 = .ok (.iastore, 1) := by decide +kernel
theorem dX12_init_486 : decode cX12_init 486 = .ok (.dup, 1) := by decide +kernel
theorem dX12_init_487 : decode cX12_init 487 = .ok (.bipush 57, 2) := by decide +kernel
theorem dX12_init_489 : decode cX12_init 489 = .ok (.iconst (-1), 1) := by decide +kernel
theorem dX12_init_490 : decode cX12_init 490 = .ok (.iastore, 1) := by decide +kernel
theorem dX12_init_491 : decode cX12_init 491 = .ok (.dup, 1) := by decide +kernel
theorem dX12_init_492 : decode cX12_init 492 = .ok (.bipush 58, 2) := by decide +kernel
theorem dX12_init_494 : decode cX12_init 494 = .ok (.iconst (-1), 1) := by decide +kernel
theorem dX12_init_495 : decode cX12_init 495 = .ok (.iastore, 1) := by decide +kernel
theorem dX12_init_496 : decode cX12_init 496 = .ok (.dup, 1) := by decide +kernel
theorem dX12_init_497 : decode cX12_init 497 = .ok (.bipush 59, 2) := by decide +kernel
theorem dX12_init_499 : decode cX12_init 499 = .ok (.iconst (-1), 1) := by decide +kernel
theorem dX12_init_500 : decode cX12_init 500 = .ok (.iastore, 1) := by decide +kernel
theorem dX12_init_501 : decode cX12_init 501 = .ok (.dup, 1) := by decide +kernel
theorem dX12_init_502 : decode cX12_init 502 = .ok (.bipush 60, 2) := by decide +kernel
theorem dX12_init_504 : decode cX12_init 504 = .ok (.iconst (-1), 1) := by decide +kernel
theorem dX12_init_505 : decode cX12_init 505 = .ok (.iastore, 1) := by decide +kernel
theorem dX12_init_506 : decode cX12_init 506 = .ok (.dup, 1) := by decide +kernel
theorem dX12_init_507 : decode cX12_init 507 = .ok (.bipush 61, 2) := by decide +kernel
theorem dX12_init_509 : decode cX12_init 509 = .ok (.iconst (-1), 1) := by decide +kernel
theorem dX12_init_510 : decode cX12_init 510 = .ok (.iastore, 1) := by decide +kernel
theorem dX12_init_511 : decode cX12_init 511 = .ok (.dup, 1) := by decide +kernel
theorem dX12_init_512 : decode cX12_init 512 = .ok (.bipush 62, 2) := by decide +kernel
theorem dX12_init_514 : decode cX12_init 514 = .ok (.iconst (-1), 1) := by decide +kernel
theorem dX12_init_515 : decode cX12_init 515 = .ok (.iastore, 1) := by decide +kernel
theorem dX12_init_516 : decode cX12_init 516 = .ok (.dup, 1) := by decide +kernel
theorem dX12_init_517 : decode cX12_init 517 = .ok (.bipush 63, 2) := by decide +kernel
theorem dX12_init_519 : decode cX12_init 519 = .ok (.iconst (-1), 1) := by decide +kernel
theorem dX12_init_520 : decode cX12_init 520 = .ok (.iastore, 1) := by decide +kernel
theorem dX12_init_521 : decode cX12_init 521 = .ok (.putfield 68, 3) := by decide +kernel
theorem dX12_init_524 : decode cX12_init 524 = .ok (.aload_n 0, 1) := by decide +kernel
theorem dX12_init_525 : decode cX12_init 525 = .ok (.bipush 8, 2) := by decide +kernel
theorem dX12_init_527 : decode cX12_init 527 = .ok (.newarray .int, 2) := by decide +kernel
theorem dX12_init_529 : decode cX12_init 529 = .ok (.putfield 71, 3) := by decide +kernel
theorem dX12_init_532 : decode cX12_init 532 = .ok (.aload_n 0, 1) := by decide +kernel
theorem dX12_init_533 : decode cX12_init 533 = .ok (.bipush 8, 2) := by decide +kernel
theorem dX12_init_535 : decode cX12_init 535 = .ok (.newarray .int, 2) := by decide +kernel
theorem dX12_init_537 : decode cX12_init 537 = .ok (.putfield 74, 3) := by decide +kernel
theorem dX12_init_540 : decode cX12_init 540 = .ok (.aload_n 0, 1) := by decide +kernel
theorem dX12_init_541 : decode cX12_init 541 = .ok (.bipush 8, 2) := by decide +kernel
theorem dX12_init_543 : decode cX12_init 543 = .ok (.newarray .int, 2) := by decide +kernel
theorem dX12_init_545 : decode cX12_init 545 = .ok (.putfield 77, 3) := by decide +kernel
theorem dX12_init_548 : decode cX12_init 548 = .ok (.aload_n 0, 1) := by decide +kernel
theorem dX12_init_549 : decode cX12_init 549 = .ok (.sipush 3200, 3) := by decide +kernel
theorem dX12_init_552 : decode cX12_init 552 = .ok (.newarray .int, 2) := by decide +kernel
theorem dX12_init_554 : decode cX12_init 554 = .ok (.putfield 80, 3) := by decide +kernel
theorem dX12_init_557 : decode cX12_init 557 = .ok (.return_, 1) := by decide +kernel
theorem dX12_thrown_0 : decode cX12_thrown 0 = .ok (.aload_n 0, 1) := by decide +kernel
theorem dX12_thrown_1 : decode cX12_thrown 1 = .ok (.getfield 83, 3) := by decide +kernel
theorem dX12_thrown_4 : decode cX12_thrown 4 = .ok (.ireturn, 1) := by decide +kernel
theorem dX12_in_0 : decode cX12_in 0 = .ok (.iload_n 0, 1) := by decide +kernel
theorem dX12_in_1 : decode cX12_in 1 = .ok (.iload_n 1, 1) := by decide +kernel
theorem dX12_in_2 : decode cX12_in 2 = .ok (.if_icmp .lt 12, 3) := by decide +kernel
theorem dX12_in_5 : decode cX12_in 5 = .ok (.iload_n 0, 1) := by decide +kernel
theorem dX12_in_6 : decode cX12_in 6 = .ok (.iload_n 2, 1) := by decide +kernel
theorem dX12_in_7 : decode cX12_in 7 = .ok (.if_icmp .gt 7, 3) := by decide +kernel
theorem dX12_in_10 : decode cX12_in 10 = .ok (.iconst 1, 1) := by decide +kernel
theorem dX12_in_11 : decode cX12_in 11 = .ok (.goto 4, 3) := by decide +kernel
theorem dX12_in_14 : decode cX12_in 14 = .ok (.iconst 0, 1) := by decide +kernel
theorem dX12_in_15 : decode cX12_in 15 = .ok (.ireturn, 1) := by decide +kernel
set_option maxRecDepth 20000 in
theorem ggX12_isLand_X12_in : GoodIn wsX12_isLand wsX12_in := goodIn_r _ [4] (by decide +kernel) (by decide +kernel)
set_option maxRecDepth 20000 in
theorem gX12_isLand_X12_in : GoodIn wsX12_isLand (va_wsS RX12 87 yX12_in wsX12_in) := goodIn_app (goodIn_of _ (by decide +kernel)) ggX12_isLand_X12_in
theorem dX12_isLand_0 : decode cX12_isLand 0 = .ok (.iload_n 0, 1) := by decide +kernel
theorem dX12_isLand_1 : decode cX12_isLand 1 = .ok (.iconst 0, 1) := by decide +kernel
theorem dX12_isLand_2 : decode cX12_isLand 2 = .ok (.bipush 7, 2) := by decide +kernel
theorem dX12_isLand_4 : decode cX12_isLand 4 = .ok (.invokestatic 87, 3) := by decide +kernel
theorem dX12_isLand_7 : decode cX12_isLand 7 = .ok (.ireturn, 1) := by decide +kernel
set_option maxRecDepth 20000 in
theorem ggX12_isDay_X12_in : GoodIn wsX12_isDay wsX12_in := goodIn_r _ [4] (by decide +kernel) (by decide +kernel)
set_option maxRecDepth 20000 in
theorem gX12_isDay_X12_in : GoodIn wsX12_isDay (va_wsS RX12 87 yX12_in wsX12_in) := goodIn_app (goodIn_of _ (by decide +kernel)) ggX12_isDay_X12_in
theorem dX12_isDay_0 : decode cX12_isDay 0 = .ok (.iload_n 0, 1) := by decide +kernel
theorem dX12_isDay_1 : decode cX12_isDay 1 = .ok (.iconst 0, 1) := by decide +kernel
theorem dX12_isDay_2 : decode cX12_isDay 2 = .ok (.sipush 399, 3) := by decide +kernel
theorem dX12_isDay_5 : decode cX12_isDay 5 = .ok (.invokestatic 87, 3) := by decide +kernel
theorem dX12_isDay_8 : decode cX12_isDay 8 = .ok (.ireturn, 1) := by decide +kernel
set_option maxRecDepth 20000 in
theorem ggX12_isPerson_X12_in : GoodIn wsX12_isPerson wsX12_in := goodIn_r _ [5] (by decide +kernel) (by decide +kernel)
set_option maxRecDepth 20000 in
theorem gX12_isPerson_X12_in : GoodIn wsX12_isPerson (va_wsS RX12 87 yX12_in wsX12_in) := goodIn_app (goodIn_of _ (by decide +kernel)) ggX12_isPerson_X12_in
theorem dX12_isPerson_0 : decode cX12_isPerson 0 = .ok (.iload_n 1, 1) := by decide +kernel
theorem dX12_isPerson_1 : decode cX12_isPerson 1 = .ok (.iconst 0, 1) := by decide +kernel
theorem dX12_isPerson_2 : decode cX12_isPerson 2 = .ok (.aload_n 0, 1) := by decide +kernel
theorem dX12_isPerson_3 : decode cX12_isPerson 3 = .ok (.getfield 91, 3) := by decide +kernel
theorem dX12_isPerson_6 : decode cX12_isPerson 6 = .ok (.iconst 1, 1) := by decide +kernel
theorem dX12_isPerson_7 : decode cX12_isPerson 7 = .ok (.isub, 1) := by decide +kernel
theorem dX12_isPerson_8 : decode cX12_isPerson 8 = .ok (.invokestatic 87, 3) := by decide +kernel
theorem dX12_isPerson_11 : decode cX12_isPerson 11 = .ok (.ireturn, 1) := by decide +kernel
set_option maxRecDepth 20000 in
theorem ggX12_isMark_X12_in : GoodIn wsX12_isMark wsX12_in := goodIn_r _ [5] (by decide +kernel) (by decide +kernel)
set_option maxRecDepth 20000 in
theorem gX12_isMark_X12_in : GoodIn wsX12_isMark (va_wsS RX12 87 yX12_in wsX12_in) := goodIn_app (goodIn_of _ (by decide +kernel)) ggX12_isMark_X12_in
theorem dX12_isMark_0 : decode cX12_isMark 0 = .ok (.iload_n 1, 1) := by decide +kernel
theorem dX12_isMark_1 : decode cX12_isMark 1 = .ok (.iconst 0, 1) := by decide +kernel
theorem dX12_isMark_2 : decode cX12_isMark 2 = .ok (.aload_n 0, 1) := by decide +kernel
theorem dX12_isMark_3 : decode cX12_isMark 3 = .ok (.getfield 94, 3) := by decide +kernel
theorem dX12_isMark_6 : decode cX12_isMark 6 = .ok (.iconst 1, 1) := by decide +kernel
theorem dX12_isMark_7 : decode cX12_isMark 7 = .ok (.isub, 1) := by decide +kernel
theorem dX12_isMark_8 : decode cX12_isMark 8 = .ok (.invokestatic 87, 3) := by decide +kernel
theorem dX12_isMark_11 : decode cX12_isMark 11 = .ok (.ireturn, 1) := by decide +kernel
set_option maxRecDepth 20000 in
theorem ggX12_person_X12_isLand : GoodIn wsX12_person wsX12_isLand := goodIn_r _ [8, 9, 10, 7, 11] (by decide +kernel) (by decide +kernel)
set_option maxRecDepth 20000 in
theorem gX12_person_X12_isLand : GoodIn wsX12_person (va_wsS RX12 97 yX12_isLand wsX12_isLand) := goodIn_app (goodIn_of _ (by decide +kernel)) ggX12_person_X12_isLand
theorem dX12_person_0 : decode cX12_person 0 = .ok (.iload_n 1, 1) := by decide +kernel
theorem dX12_person_1 : decode cX12_person 1 = .ok (.invokestatic 97, 3) := by decide +kernel
theorem dX12_person_4 : decode cX12_person 4 = .ok (.ifCond .eq 10, 3) := by decide +kernel
theorem dX12_person_7 : decode cX12_person 7 = .ok (.iload_n 2, 1) := by decide +kernel
theorem dX12_person_8 : decode cX12_person 8 = .ok (.invokestatic 97, 3) := by decide +kernel
theorem dX12_person_11 : decode cX12_person 11 = .ok (.ifCond .ne 5, 3) := by decide +kernel
theorem dX12_person_14 : decode cX12_person 14 = .ok (.iconst (-1), 1) := by decide +kernel
theorem dX12_person_15 : decode cX12_person 15 = .ok (.ireturn, 1) := by decide +kernel
theorem dX12_person_16 : decode cX12_person 16 = .ok (.aload_n 0, 1) := by decide +kernel
theorem dX12_person_17 : decode cX12_person 17 = .ok (.getfield 91, 3) := by decide +kernel
theorem dX12_person_20 : decode cX12_person 20 = .ok (.bipush 6, 2) := by decide +kernel
theorem dX12_person_22 : decode cX12_person 22 = .ok (.if_icmp .ne 6, 3) := by decide +kernel
theorem dX12_person_25 : decode cX12_person 25 = .ok (.bipush (-2), 2) := by decide +kernel
theorem dX12_person_27 : decode cX12_person 27 = .ok (.ireturn, 1) := by decide +kernel
theorem dX12_person_28 : decode cX12_person 28 = .ok (.aload_n 0, 1) := by decide +kernel
theorem dX12_person_29 : decode cX12_person 29 = .ok (.getfield 7, 3) := by decide +kernel
theorem dX12_person_32 : decode cX12_person 32 = .ok (.aload_n 0, 1) := by decide +kernel
theorem dX12_person_33 : decode cX12_person 33 = .ok (.getfield 91, 3) := by decide +kernel
theorem dX12_person_36 : decode cX12_person 36 = .ok (.iload_n 1, 1) := by decide +kernel
theorem dX12_person_37 : decode cX12_person 37 = .ok (.iastore, 1) := by decide +kernel
theorem dX12_person_38 : decode cX12_person 38 = .ok (.aload_n 0, 1) := by decide +kernel
theorem dX12_person_39 : decode cX12_person 39 = .ok (.getfield 13, 3) := by decide +kernel
theorem dX12_person_42 : decode cX12_person 42 = .ok (.aload_n 0, 1) := by decide +kernel
theorem dX12_person_43 : decode cX12_person 43 = .ok (.getfield 91, 3) := by decide +kernel
theorem dX12_person_46 : decode cX12_person 46 = .ok (.iload_n 2, 1) := by decide +kernel
theorem dX12_person_47 : decode cX12_person 47 = .ok (.iastore, 1) := by decide +kernel
theorem dX12_person_48 : decode cX12_person 48 = .ok (.aload_n 0, 1) := by decide +kernel
theorem dX12_person_49 : decode cX12_person 49 = .ok (.getfield 16, 3) := by decide +kernel
theorem dX12_person_52 : decode cX12_person 52 = .ok (.aload_n 0, 1) := by decide +kernel
theorem dX12_person_53 : decode cX12_person 53 = .ok (.getfield 91, 3) := by decide +kernel
theorem dX12_person_56 : decode cX12_person 56 = .ok (.iconst 0, 1) := by decide +kernel
theorem dX12_person_57 : decode cX12_person 57 = .ok (.bastore, 1) := by decide +kernel
theorem dX12_person_58 : decode cX12_person 58 = .ok (.aload_n 0, 1) := by decide +kernel
theorem dX12_person_59 : decode cX12_person 59 = .ok (.dup, 1) := by decide +kernel
theorem dX12_person_60 : decode cX12_person 60 = .ok (.getfield 91, 3) := by decide +kernel
theorem dX12_person_63 : decode cX12_person 63 = .ok (.iconst 1, 1) := by decide +kernel
theorem dX12_person_64 : decode cX12_person 64 = .ok (.iadd, 1) := by decide +kernel
theorem dX12_person_65 : decode cX12_person 65 = .ok (.putfield 91, 3) := by decide +kernel
theorem dX12_person_68 : decode cX12_person 68 = .ok (.aload_n 0, 1) := by decide +kernel
theorem dX12_person_69 : decode cX12_person 69 = .ok (.getfield 91, 3) := by decide +kernel
theorem dX12_person_72 : decode cX12_person 72 = .ok (.iconst 1, 1) := by decide +kernel
theorem dX12_person_73 : decode cX12_person 73 = .ok (.isub, 1) := by decide +kernel
theorem dX12_person_74 : decode cX12_person 74 = .ok (.ireturn, 1) := by decide +kernel
theorem dX12_tells_0 : decode cX12_tells 0 = .ok (.aload_n 0, 1) := by decide +kernel
theorem dX12_tells_1 : decode cX12_tells 1 = .ok (.getfield 23, 3) := by decide +kernel
theorem dX12_tells_4 : decode cX12_tells 4 = .ok (.iload_n 1, 1) := by decide +kernel
theorem dX12_tells_5 : decode cX12_tells 5 = .ok (.iaload, 1) := by decide +kernel
theorem dX12_tells_6 : decode cX12_tells 6 = .ok (.iload_n 2, 1) := by decide +kernel
theorem dX12_tells_7 : decode cX12_tells 7 = .ok (.if_icmp .ne 36, 3) := by decide +kernel
theorem dX12_tells_10 : decode cX12_tells 10 = .ok (.aload_n 0, 1) := by decide +kernel
theorem dX12_tells_11 : decode cX12_tells 11 = .ok (.getfield 35, 3) := by decide +kernel
theorem dX12_tells_14 : decode cX12_tells 14 = .ok (.iload_n 1, 1) := by decide +kernel
theorem dX12_tells_15 : decode cX12_tells 15 = .ok (.baload, 1) := by decide +kernel
theorem dX12_tells_16 : decode cX12_tells 16 = .ok (.ifCond .ne 27, 3) := by decide +kernel
theorem dX12_tells_19 : decode cX12_tells 19 = .ok (.iload_n 3, 1) := by decide +kernel
theorem dX12_tells_20 : decode cX12_tells 20 = .ok (.aload_n 0, 1) := by decide +kernel
theorem dX12_tells_21 : decode cX12_tells 21 = .ok (.getfield 26, 3) := by decide +kernel
theorem dX12_tells_24 : decode cX12_tells 24 = .ok (.iload_n 1, 1) := by decide +kernel
theorem dX12_tells_25 : decode cX12_tells 25 = .ok (.iaload, 1) := by decide +kernel
theorem dX12_tells_26 : decode cX12_tells 26 = .ok (.if_icmp .lt 17, 3) := by decide +kernel
theorem dX12_tells_29 : decode cX12_tells 29 = .ok (.iload_n 3, 1) := by decide +kernel
theorem dX12_tells_30 : decode cX12_tells 30 = .ok (.aload_n 0, 1) := by decide +kernel
theorem dX12_tells_31 : decode cX12_tells 31 = .ok (.getfield 29, 3) := by decide +kernel
theorem dX12_tells_34 : decode cX12_tells 34 = .ok (.iload_n 1, 1) := by decide +kernel
theorem dX12_tells_35 : decode cX12_tells 35 = .ok (.iaload, 1) := by decide +kernel
theorem dX12_tells_36 : decode cX12_tells 36 = .ok (.if_icmp .gt 7, 3) := by decide +kernel
theorem dX12_tells_39 : decode cX12_tells 39 = .ok (.iconst 1, 1) := by decide +kernel
theorem dX12_tells_40 : decode cX12_tells 40 = .ok (.goto 4, 3) := by decide +kernel
theorem dX12_tells_43 : decode cX12_tells 43 = .ok (.iconst 0, 1) := by decide +kernel
theorem dX12_tells_44 : decode cX12_tells 44 = .ok (.ireturn, 1) := by decide +kernel
set_option maxRecDepth 20000 in
theorem ggX12_canOf_X12_tells : GoodIn wsX12_canOf wsX12_tells := goodIn_r _ [8, 9, 10, 11, 12, 13, 14, 15, 16, 17, 18, 19, 20, 21, 22, 23, 24, 25, 26, 27, 28, 29, 30, 31, 32, 33, 34, 35, 36, 37, 38, 39, 40] (by decide +kernel) (by decide +kernel)
set_option maxRecDepth 20000 in
theorem gX12_canOf_X12_tells : GoodIn wsX12_canOf (wsV RX12 101 RX12 yX12_tells wsX12_tells) := goodIn_app (goodIn_of _ (by decide +kernel)) ggX12_canOf_X12_tells
theorem dX12_canOf_0 : decode cX12_canOf 0 = .ok (.sipush 255, 3) := by decide +kernel
theorem dX12_canOf_3 : decode cX12_canOf 3 = .ok (.istore_n 3, 1) := by decide +kernel
theorem dX12_canOf_4 : decode cX12_canOf 4 = .ok (.sipush 255, 3) := by decide +kernel
theorem dX12_canOf_7 : decode cX12_canOf 7 = .ok (.istore 4, 2) := by decide +kernel
theorem dX12_canOf_9 : decode cX12_canOf 9 = .ok (.iconst 0, 1) := by decide +kernel
theorem dX12_canOf_10 : decode cX12_canOf 10 = .ok (.istore 5, 2) := by decide +kernel
theorem dX12_canOf_12 : decode cX12_canOf 12 = .ok (.iconst 0, 1) := by decide +kernel
theorem dX12_canOf_13 : decode cX12_canOf 13 = .ok (.istore 6, 2) := by decide +kernel
theorem dX12_canOf_15 : decode cX12_canOf 15 = .ok (.iload 6, 2) := by decide +kernel
theorem dX12_canOf_17 : decode cX12_canOf 17 = .ok (.aload_n 0, 1) := by decide +kernel
theorem dX12_canOf_18 : decode cX12_canOf 18 = .ok (.getfield 94, 3) := by decide +kernel
theorem dX12_canOf_21 : decode cX12_canOf 21 = .ok (.if_icmp .ge 62, 3) := by decide +kernel
theorem dX12_canOf_24 : decode cX12_canOf 24 = .ok (.aload_n 0, 1) := by decide +kernel
theorem dX12_canOf_25 : decode cX12_canOf 25 = .ok (.iload 6, 2) := by decide +kernel
theorem dX12_canOf_27 : decode cX12_canOf 27 = .ok (.iload_n 1, 1) := by decide +kernel
theorem dX12_canOf_28 : decode cX12_canOf 28 = .ok (.iload_n 2, 1) := by decide +kernel
theorem dX12_canOf_29 : decode cX12_canOf 29 = .ok (.invokevirtual 101, 3) := by decide +kernel
theorem dX12_canOf_32 : decode cX12_canOf 32 = .ok (.ifCond .ne 6, 3) := by decide +kernel
theorem dX12_canOf_35 : decode cX12_canOf 35 = .ok (.goto 42, 3) := by decide +kernel
theorem dX12_canOf_38 : decode cX12_canOf 38 = .ok (.aload_n 0, 1) := by decide +kernel
theorem dX12_canOf_39 : decode cX12_canOf 39 = .ok (.getfield 20, 3) := by decide +kernel
theorem dX12_canOf_42 : decode cX12_canOf 42 = .ok (.iload 6, 2) := by decide +kernel
theorem dX12_canOf_44 : decode cX12_canOf 44 = .ok (.iaload, 1) := by decide +kernel
theorem dX12_canOf_45 : decode cX12_canOf 45 = .ok (.iconst 3, 1) := by decide +kernel
theorem dX12_canOf_46 : decode cX12_canOf 46 = .ok (.if_icmp .ne 18, 3) := by decide +kernel
theorem dX12_canOf_49 : decode cX12_canOf 49 = .ok (.iload 4, 2) := by decide +kernel
theorem dX12_canOf_51 : decode cX12_canOf 51 = .ok (.aload_n 0, 1) := by decide +kernel
theorem dX12_canOf_52 : decode cX12_canOf 52 = .ok (.getfield 32, 3) := by decide +kernel
theorem dX12_canOf_55 : decode cX12_canOf 55 = .ok (.iload 6, 2) := by decide +kernel
theorem dX12_canOf_57 : decode cX12_canOf 57 = .ok (.iaload, 1) := by decide +kernel
theorem dX12_canOf_58 : decode cX12_canOf 58 = .ok (.iand, 1) := by decide +kernel
theorem dX12_canOf_59 : decode cX12_canOf 59 = .ok (.istore 4, 2) := by decide +kernel
theorem dX12_canOf_61 : decode cX12_canOf 61 = .ok (.goto 16, 3) := by decide +kernel
theorem dX12_canOf_64 : decode cX12_canOf 64 = .ok (.iload_n 3, 1) := by decide +kernel
theorem dX12_canOf_65 : decode cX12_canOf 65 = .ok (.aload_n 0, 1) := by decide +kernel
theorem dX12_canOf_66 : decode cX12_canOf 66 = .ok (.getfield 32, 3) := by decide +kernel
theorem dX12_canOf_69 : decode cX12_canOf 69 = .ok (.iload 6, 2) := by decide +kernel
theorem dX12_canOf_71 : decode cX12_canOf 71 = .ok (.iaload, 1) := by decide +kernel
theorem dX12_canOf_72 : decode cX12_canOf 72 = .ok (.iand, 1) := by decide +kernel
theorem dX12_canOf_73 : decode cX12_canOf 73 = .ok (.istore_n 3, 1) := by decide +kernel
theorem dX12_canOf_74 : decode cX12_canOf 74 = .ok (.iconst 1, 1) := by decide +kernel
theorem dX12_canOf_75 : decode cX12_canOf 75 = .ok (.istore 5, 2) := by decide +kernel
theorem dX12_canOf_77 : decode cX12_canOf 77 = .ok (.iinc 6 1, 3) := by decide +kernel
theorem dX12_canOf_80 : decode cX12_canOf 80 = .ok (.goto (-65), 3) := by decide +kernel
theorem dX12_canOf_83 : decode cX12_canOf 83 = .ok (.iload 5, 2) := by decide +kernel
theorem dX12_canOf_85 : decode cX12_canOf 85 = .ok (.ifCond .eq 7, 3) := by decide +kernel
theorem dX12_canOf_88 : decode cX12_canOf 88 = .ok (.iload_n 3, 1) := by decide +kernel
theorem dX12_canOf_89 : decode cX12_canOf 89 = .ok (.goto 5, 3) := by decide +kernel
theorem dX12_canOf_92 : decode cX12_canOf 92 = .ok (.iload 4, 2) := by decide +kernel
theorem dX12_canOf_94 : decode cX12_canOf 94 = .ok (.ireturn, 1) := by decide +kernel
set_option maxRecDepth 20000 in
theorem ggX12_isWhole_X12_canOf : GoodIn wsX12_isWhole wsX12_canOf := goodIn_r _ [5, 6, 7, 8, 9, 10, 11, 4, 12, 13, 14, 15, 16, 17, 18, 19, 20, 21, 22, 23, 24, 25, 26, 27, 28, 29, 30, 31, 32, 33, 34, 35, 36, 37, 38, 39, 40, 41, 42, 43, 44] (by decide +kernel) (by decide +kernel)
set_option maxRecDepth 20000 in
theorem gX12_isWhole_X12_canOf : GoodIn wsX12_isWhole (wsV RX12 104 RX12 yX12_canOf wsX12_canOf) := goodIn_app (goodIn_of _ (by decide +kernel)) ggX12_isWhole_X12_canOf
theorem dX12_isWhole_0 : decode cX12_isWhole 0 = .ok (.iconst 0, 1) := by decide +kernel
theorem dX12_isWhole_1 : decode cX12_isWhole 1 = .ok (.istore_n 2, 1) := by decide +kernel
theorem dX12_isWhole_2 : decode cX12_isWhole 2 = .ok (.iload_n 2, 1) := by decide +kernel
theorem dX12_isWhole_3 : decode cX12_isWhole 3 = .ok (.sipush 400, 3) := by decide +kernel
theorem dX12_isWhole_6 : decode cX12_isWhole 6 = .ok (.if_icmp .ge 20, 3) := by decide +kernel
theorem dX12_isWhole_9 : decode cX12_isWhole 9 = .ok (.aload_n 0, 1) := by decide +kernel
theorem dX12_isWhole_10 : decode cX12_isWhole 10 = .ok (.iload_n 1, 1) := by decide +kernel
theorem dX12_isWhole_11 : decode cX12_isWhole 11 = .ok (.iload_n 2, 1) := by decide +kernel
theorem dX12_isWhole_12 : decode cX12_isWhole 12 = .ok (.invokevirtual 104, 3) := by decide +kernel
theorem dX12_isWhole_15 : decode cX12_isWhole 15 = .ok (.ifCond .ne 5, 3) := by decide +kernel
theorem dX12_isWhole_18 : decode cX12_isWhole 18 = .ok (.iconst 0, 1) := by decide +kernel
theorem dX12_isWhole_19 : decode cX12_isWhole 19 = .ok (.ireturn, 1) := by decide +kernel
theorem dX12_isWhole_20 : decode cX12_isWhole 20 = .ok (.iinc 2 1, 3) := by decide +kernel
theorem dX12_isWhole_23 : decode cX12_isWhole 23 = .ok (.goto (-21), 3) := by decide +kernel
theorem dX12_isWhole_26 : decode cX12_isWhole 26 = .ok (.iconst 1, 1) := by decide +kernel
theorem dX12_isWhole_27 : decode cX12_isWhole 27 = .ok (.ireturn, 1) := by decide +kernel
set_option maxRecDepth 20000 in
theorem ggX12_comes_X12_isWhole : GoodIn wsX12_comes wsX12_isWhole := goodIn_r _ [13, 14, 15, 16, 12, 17, 1, 3, 7, 18, 19, 20, 21, 4, 8, 5, 6, 22, 23, 24, 25, 26, 27, 28, 29, 30, 31, 32, 33, 34, 35, 36, 37, 38, 39, 40, 41, 42, 43, 44, 45, 46, 47, 48, 49] (by decide +kernel) (by decide +kernel)
set_option maxRecDepth 20000 in
theorem gX12_comes_X12_isWhole : GoodIn wsX12_comes (wsV RX12 108 RX12 yX12_isWhole wsX12_isWhole) := goodIn_app (goodIn_of _ (by decide +kernel)) ggX12_comes_X12_isWhole
theorem dX12_comes_0 : decode cX12_comes 0 = .ok (.aload_n 0, 1) := by decide +kernel
theorem dX12_comes_1 : decode cX12_comes 1 = .ok (.getfield 94, 3) := by decide +kernel
theorem dX12_comes_4 : decode cX12_comes 4 = .ok (.bipush 80, 2) := by decide +kernel
theorem dX12_comes_6 : decode cX12_comes 6 = .ok (.if_icmp .ne 6, 3) := by decide +kernel
theorem dX12_comes_9 : decode cX12_comes 9 = .ok (.bipush (-2), 2) := by decide +kernel
theorem dX12_comes_11 : decode cX12_comes 11 = .ok (.ireturn, 1) := by decide +kernel
theorem dX12_comes_12 : decode cX12_comes 12 = .ok (.aload_n 0, 1) := by decide +kernel
theorem dX12_comes_13 : decode cX12_comes 13 = .ok (.getfield 16, 3) := by decide +kernel
theorem dX12_comes_16 : decode cX12_comes 16 = .ok (.iload_n 2, 1) := by decide +kernel
theorem dX12_comes_17 : decode cX12_comes 17 = .ok (.baload, 1) := by decide +kernel
theorem dX12_comes_18 : decode cX12_comes 18 = .ok (.ifCond .eq 6, 3) := by decide +kernel
theorem dX12_comes_21 : decode cX12_comes 21 = .ok (.bipush (-3), 2) := by decide +kernel
theorem dX12_comes_23 : decode cX12_comes 23 = .ok (.ireturn, 1) := by decide +kernel
theorem dX12_comes_24 : decode cX12_comes 24 = .ok (.aload_n 0, 1) := by decide +kernel
theorem dX12_comes_25 : decode cX12_comes 25 = .ok (.getfield 20, 3) := by decide +kernel
theorem dX12_comes_28 : decode cX12_comes 28 = .ok (.aload_n 0, 1) := by decide +kernel
theorem dX12_comes_29 : decode cX12_comes 29 = .ok (.getfield 94, 3) := by decide +kernel
theorem dX12_comes_32 : decode cX12_comes 32 = .ok (.iload_n 1, 1) := by decide +kernel
theorem dX12_comes_33 : decode cX12_comes 33 = .ok (.iastore, 1) := by decide +kernel
theorem dX12_comes_34 : decode cX12_comes 34 = .ok (.aload_n 0, 1) := by decide +kernel
theorem dX12_comes_35 : decode cX12_comes 35 = .ok (.getfield 23, 3) := by decide +kernel
theorem dX12_comes_38 : decode cX12_comes 38 = .ok (.aload_n 0, 1) := by decide +kernel
theorem dX12_comes_39 : decode cX12_comes 39 = .ok (.getfield 94, 3) := by decide +kernel
theorem dX12_comes_42 : decode cX12_comes 42 = .ok (.iload_n 2, 1) := by decide +kernel
theorem dX12_comes_43 : decode cX12_comes 43 = .ok (.iastore, 1) := by decide +kernel
theorem dX12_comes_44 : decode cX12_comes 44 = .ok (.aload_n 0, 1) := by decide +kernel
theorem dX12_comes_45 : decode cX12_comes 45 = .ok (.getfield 26, 3) := by decide +kernel
theorem dX12_comes_48 : decode cX12_comes 48 = .ok (.aload_n 0, 1) := by decide +kernel
theorem dX12_comes_49 : decode cX12_comes 49 = .ok (.getfield 94, 3) := by decide +kernel
theorem dX12_comes_52 : decode cX12_comes 52 = .ok (.iload_n 3, 1) := by decide +kernel
theorem dX12_comes_53 : decode cX12_comes 53 = .ok (.iastore, 1) := by decide +kernel
theorem dX12_comes_54 : decode cX12_comes 54 = .ok (.aload_n 0, 1) := by decide +kernel
theorem dX12_comes_55 : decode cX12_comes 55 = .ok (.getfield 29, 3) := by decide +kernel
theorem dX12_comes_58 : decode cX12_comes 58 = .ok (.aload_n 0, 1) := by decide +kernel
theorem dX12_comes_59 : decode cX12_comes 59 = .ok (.getfield 94, 3) := by decide +kernel
theorem dX12_comes_62 : decode cX12_comes 62 = .ok (.iload 4, 2) := by decide +kernel
theorem dX12_comes_64 : decode cX12_comes 64 = .ok (.iastore, 1) := by decide +kernel
theorem dX12_comes_65 : decode cX12_comes 65 = .ok (.aload_n 0, 1) := by decide +kernel
theorem dX12_comes_66 : decode cX12_comes 66 = .ok (.getfield 32, 3) := by decide +kernel
theorem dX12_comes_69 : decode cX12_comes 69 = .ok (.aload_n 0, 1) := by decide +kernel
theorem dX12_comes_70 : decode cX12_comes 70 = .ok (.getfield 94, 3) := by decide +kernel
theorem dX12_comes_73 : decode cX12_comes 73 = .ok (.iload 5, 2) := by decide +kernel
theorem dX12_comes_75 : decode cX12_comes 75 = .ok (.iastore, 1) := by decide +kernel
theorem dX12_comes_76 : decode cX12_comes 76 = .ok (.aload_n 0, 1) := by decide +kernel
theorem dX12_comes_77 : decode cX12_comes 77 = .ok (.getfield 35, 3) := by decide +kernel
theorem dX12_comes_80 : decode cX12_comes 80 = .ok (.aload_n 0, 1) := by decide +kernel
theorem dX12_comes_81 : decode cX12_comes 81 = .ok (.getfield 94, 3) := by decide +kernel
theorem dX12_comes_84 : decode cX12_comes 84 = .ok (.iconst 0, 1) := by decide +kernel
theorem dX12_comes_85 : decode cX12_comes 85 = .ok (.bastore, 1) := by decide +kernel
theorem dX12_comes_86 : decode cX12_comes 86 = .ok (.aload_n 0, 1) := by decide +kernel
theorem dX12_comes_87 : decode cX12_comes 87 = .ok (.dup, 1) := by decide +kernel
theorem dX12_comes_88 : decode cX12_comes 88 = .ok (.getfield 94, 3) := by decide +kernel
theorem dX12_comes_91 : decode cX12_comes 91 = .ok (.iconst 1, 1) := by decide +kernel
theorem dX12_comes_92 : decode cX12_comes 92 = .ok (.iadd, 1) := by decide +kernel
theorem dX12_comes_93 : decode cX12_comes 93 = .ok (.putfield 94, 3) := by decide +kernel
theorem dX12_comes_96 : decode cX12_comes 96 = .ok (.aload_n 0, 1) := by decide +kernel
theorem dX12_comes_97 : decode cX12_comes 97 = .ok (.iload_n 2, 1) := by decide +kernel
theorem dX12_comes_98 : decode cX12_comes 98 = .ok (.invokevirtual 108, 3) := by decide +kernel
theorem dX12_comes_101 : decode cX12_comes 101 = .ok (.ifCond .ne 16, 3) := by decide +kernel
theorem dX12_comes_104 : decode cX12_comes 104 = .ok (.aload_n 0, 1) := by decide +kernel
theorem dX12_comes_105 : decode cX12_comes 105 = .ok (.dup, 1) := by decide +kernel
theorem dX12_comes_106 : decode cX12_comes 106 = .ok (.getfield 94, 3) := by decide +kernel
theorem dX12_comes_109 : decode cX12_comes 109 = .ok (.iconst 1, 1) := by decide +kernel
theorem dX12_comes_110 : decode cX12_comes 110 = .ok (.isub, 1) := by decide +kernel
theorem dX12_comes_111 : decode cX12_comes 111 = .ok (.putfield 94, 3) := by decide +kernel
theorem dX12_comes_114 : decode cX12_comes 114 = .ok (.bipush (-4), 2) := by decide +kernel
theorem dX12_comes_116 : decode cX12_comes 116 = .ok (.ireturn, 1) := by decide +kernel
theorem dX12_comes_117 : decode cX12_comes 117 = .ok (.aload_n 0, 1) := by decide +kernel
theorem dX12_comes_118 : decode cX12_comes 118 = .ok (.getfield 94, 3) := by decide +kernel
theorem dX12_comes_121 : decode cX12_comes 121 = .ok (.iconst 1, 1) := by decide +kernel
theorem dX12_comes_122 : decode cX12_comes 122 = .ok (.isub, 1) := by decide +kernel
theorem dX12_comes_123 : decode cX12_comes 123 = .ok (.ireturn, 1) := by decide +kernel
set_option maxRecDepth 20000 in
theorem ggX12_isSpan_X12_isDay : GoodIn wsX12_isSpan wsX12_isDay := goodIn_r _ [4, 5, 6, 3, 7] (by decide +kernel) (by decide +kernel)
set_option maxRecDepth 20000 in
theorem gX12_isSpan_X12_isDay : GoodIn wsX12_isSpan (va_wsS RX12 111 yX12_isDay wsX12_isDay) := goodIn_app (goodIn_of _ (by decide +kernel)) ggX12_isSpan_X12_isDay
theorem dX12_isSpan_0 : decode cX12_isSpan 0 = .ok (.iload_n 0, 1) := by decide +kernel
theorem dX12_isSpan_1 : decode cX12_isSpan 1 = .ok (.invokestatic 111, 3) := by decide +kernel
theorem dX12_isSpan_4 : decode cX12_isSpan 4 = .ok (.ifCond .eq 19, 3) := by decide +kernel
theorem dX12_isSpan_7 : decode cX12_isSpan 7 = .ok (.iload_n 1, 1) := by decide +kernel
theorem dX12_isSpan_8 : decode cX12_isSpan 8 = .ok (.invokestatic 111, 3) := by decide +kernel
theorem dX12_isSpan_11 : decode cX12_isSpan 11 = .ok (.ifCond .eq 12, 3) := by decide +kernel
theorem dX12_isSpan_14 : decode cX12_isSpan 14 = .ok (.iload_n 0, 1) := by decide +kernel
theorem dX12_isSpan_15 : decode cX12_isSpan 15 = .ok (.iload_n 1, 1) := by decide +kernel
theorem dX12_isSpan_16 : decode cX12_isSpan 16 = .ok (.if_icmp .gt 7, 3) := by decide +kernel
theorem dX12_isSpan_19 : decode cX12_isSpan 19 = .ok (.iconst 1, 1) := by decide +kernel
theorem dX12_isSpan_20 : decode cX12_isSpan 20 = .ok (.goto 4, 3) := by decide +kernel
theorem dX12_isSpan_23 : decode cX12_isSpan 23 = .ok (.iconst 0, 1) := by decide +kernel
theorem dX12_isSpan_24 : decode cX12_isSpan 24 = .ok (.ireturn, 1) := by decide +kernel
set_option maxRecDepth 20000 in
theorem ggX12_span_X12_isPerson : GoodIn wsX12_span wsX12_isPerson := goodIn_r _ [5, 6, 7, 8, 4, 9, 40, 41, 42, 43, 44, 45, 46, 47, 48, 49, 50, 51, 52, 53, 54, 55, 56, 57, 58, 59, 60, 61, 62, 63, 64, 65, 66, 67] (by decide +kernel) (by decide +kernel)
set_option maxRecDepth 20000 in
theorem gX12_span_X12_isPerson : GoodIn wsX12_span (wsV RX12 114 RX12 yX12_isPerson wsX12_isPerson) := goodIn_app (goodIn_of _ (by decide +kernel)) ggX12_span_X12_isPerson
set_option maxRecDepth 20000 in
theorem ggX12_span_X12_isSpan : GoodIn wsX12_span wsX12_isSpan := goodIn_r _ [12, 13, 14, 4, 15, 7, 8, 9] (by decide +kernel) (by decide +kernel)
set_option maxRecDepth 20000 in
theorem gX12_span_X12_isSpan : GoodIn wsX12_span (va_wsS RX12 117 yX12_isSpan wsX12_isSpan) := goodIn_app (goodIn_of _ (by decide +kernel)) ggX12_span_X12_isSpan
set_option maxRecDepth 20000 in
theorem ggX12_span_X12_in : GoodIn wsX12_span wsX12_in := goodIn_r _ [9] (by decide +kernel) (by decide +kernel)
set_option maxRecDepth 20000 in
theorem gX12_span_X12_in : GoodIn wsX12_span (va_wsS RX12 87 yX12_in wsX12_in) := goodIn_app (goodIn_of _ (by decide +kernel)) ggX12_span_X12_in
set_option maxRecDepth 20000 in
theorem ggX12_span_X12_comes : GoodIn wsX12_span wsX12_comes := goodIn_r _ [19, 20, 21, 22, 23, 24, 25, 26, 27, 28, 29, 30, 4, 31, 32, 33, 34, 35, 36, 37, 38, 39, 40, 41, 42, 43, 44, 45, 46, 47, 48, 49, 50, 51, 52, 53, 54, 55, 56, 57, 58, 59, 60, 61, 62, 63, 64, 65, 66, 67] (by decide +kernel) (by decide +kernel)
set_option maxRecDepth 20000 in
theorem gX12_span_X12_comes : GoodIn wsX12_span (wsV RX12 121 RX12 yX12_comes wsX12_comes) := goodIn_app (goodIn_of _ (by decide +kernel)) ggX12_span_X12_comes
theorem dX12_span_0 : decode cX12_span 0 = .ok (.aload_n 0, 1) := by decide +kernel
theorem dX12_span_1 : decode cX12_span 1 = .ok (.iload_n 1, 1) := by decide +kernel
theorem dX12_span_2 : decode cX12_span 2 = .ok (.invokevirtual 114, 3) := by decide +kernel
theorem dX12_span_5 : decode cX12_span 5 = .ok (.ifCond .eq 36, 3) := by decide +kernel
theorem dX12_span_8 : decode cX12_span 8 = .ok (.iload_n 2, 1) := by decide +kernel
theorem dX12_span_9 : decode cX12_span 9 = .ok (.iload_n 3, 1) := by decide +kernel
theorem dX12_span_10 : decode cX12_span 10 = .ok (.invokestatic 117, 3) := by decide +kernel
theorem dX12_span_13 : decode cX12_span 13 = .ok (.ifCond .eq 28, 3) := by decide +kernel
theorem dX12_span_16 : decode cX12_span 16 = .ok (.iload 4, 2) := by decide +kernel
theorem dX12_span_18 : decode cX12_span 18 = .ok (.iconst 1, 1) := by decide +kernel
theorem dX12_span_19 : decode cX12_span 19 = .ok (.sipush 255, 3) := by decide +kernel
theorem dX12_span_22 : decode cX12_span 22 = .ok (.invokestatic 87, 3) := by decide +kernel
theorem dX12_span_25 : decode cX12_span 25 = .ok (.ifCond .eq 16, 3) := by decide +kernel
theorem dX12_span_28 : decode cX12_span 28 = .ok (.aload_n 0, 1) := by decide +kernel
theorem dX12_span_29 : decode cX12_span 29 = .ok (.iconst 0, 1) := by decide +kernel
theorem dX12_span_30 : decode cX12_span 30 = .ok (.iload_n 1, 1) := by decide +kernel
theorem dX12_span_31 : decode cX12_span 31 = .ok (.iload_n 2, 1) := by decide +kernel
theorem dX12_span_32 : decode cX12_span 32 = .ok (.iload_n 3, 1) := by decide +kernel
theorem dX12_span_33 : decode cX12_span 33 = .ok (.iload 4, 2) := by decide +kernel
theorem dX12_span_35 : decode cX12_span 35 = .ok (.invokevirtual 121, 3) := by decide +kernel
theorem dX12_span_38 : decode cX12_span 38 = .ok (.goto 4, 3) := by decide +kernel
theorem dX12_span_41 : decode cX12_span 41 = .ok (.iconst (-1), 1) := by decide +kernel
theorem dX12_span_42 : decode cX12_span 42 = .ok (.ireturn, 1) := by decide +kernel
set_option maxRecDepth 20000 in
theorem ggX12_slept_X12_isPerson : GoodIn wsX12_slept wsX12_isPerson := goodIn_r _ [5, 6, 7, 8, 4, 9, 40, 41, 42, 43, 44, 45, 46, 47, 48, 49, 50, 51, 52, 53, 54, 55, 56, 57, 58, 59, 60, 61, 62, 63, 64, 65, 66, 67] (by decide +kernel) (by decide +kernel)
set_option maxRecDepth 20000 in
theorem gX12_slept_X12_isPerson : GoodIn wsX12_slept (wsV RX12 114 RX12 yX12_isPerson wsX12_isPerson) := goodIn_app (goodIn_of _ (by decide +kernel)) ggX12_slept_X12_isPerson
set_option maxRecDepth 20000 in
theorem ggX12_slept_X12_isDay : GoodIn wsX12_slept wsX12_isDay := goodIn_r _ [12, 7, 8, 4, 9] (by decide +kernel) (by decide +kernel)
set_option maxRecDepth 20000 in
theorem gX12_slept_X12_isDay : GoodIn wsX12_slept (va_wsS RX12 111 yX12_isDay wsX12_isDay) := goodIn_app (goodIn_of _ (by decide +kernel)) ggX12_slept_X12_isDay
set_option maxRecDepth 20000 in
theorem ggX12_slept_X12_isLand : GoodIn wsX12_slept wsX12_isLand := goodIn_r _ [15, 7, 8, 4, 9] (by decide +kernel) (by decide +kernel)
set_option maxRecDepth 20000 in
theorem gX12_slept_X12_isLand : GoodIn wsX12_slept (va_wsS RX12 97 yX12_isLand wsX12_isLand) := goodIn_app (goodIn_of _ (by decide +kernel)) ggX12_slept_X12_isLand
set_option maxRecDepth 20000 in
theorem ggX12_slept_X12_comes : GoodIn wsX12_slept wsX12_comes := goodIn_r _ [19, 20, 21, 22, 23, 24, 25, 26, 27, 28, 29, 30, 4, 31, 32, 33, 34, 35, 36, 37, 38, 39, 40, 41, 42, 43, 44, 45, 46, 47, 48, 49, 50, 51, 52, 53, 54, 55, 56, 57, 58, 59, 60, 61, 62, 63, 64, 65, 66, 67] (by decide +kernel) (by decide +kernel)
set_option maxRecDepth 20000 in
theorem gX12_slept_X12_comes : GoodIn wsX12_slept (wsV RX12 121 RX12 yX12_comes wsX12_comes) := goodIn_app (goodIn_of _ (by decide +kernel)) ggX12_slept_X12_comes
theorem dX12_slept_0 : decode cX12_slept 0 = .ok (.aload_n 0, 1) := by decide +kernel
theorem dX12_slept_1 : decode cX12_slept 1 = .ok (.iload_n 1, 1) := by decide +kernel
theorem dX12_slept_2 : decode cX12_slept 2 = .ok (.invokevirtual 114, 3) := by decide +kernel
theorem dX12_slept_5 : decode cX12_slept 5 = .ok (.ifCond .eq 40, 3) := by decide +kernel
theorem dX12_slept_8 : decode cX12_slept 8 = .ok (.iload_n 2, 1) := by decide +kernel
theorem dX12_slept_9 : decode cX12_slept 9 = .ok (.invokestatic 111, 3) := by decide +kernel
theorem dX12_slept_12 : decode cX12_slept 12 = .ok (.ifCond .eq 33, 3) := by decide +kernel
theorem dX12_slept_15 : decode cX12_slept 15 = .ok (.iload_n 3, 1) := by decide +kernel
theorem dX12_slept_16 : decode cX12_slept 16 = .ok (.invokestatic 97, 3) := by decide +kernel
theorem dX12_slept_19 : decode cX12_slept 19 = .ok (.ifCond .eq 26, 3) := by decide +kernel
theorem dX12_slept_22 : decode cX12_slept 22 = .ok (.aload_n 0, 1) := by decide +kernel
theorem dX12_slept_23 : decode cX12_slept 23 = .ok (.iload 4, 2) := by decide +kernel
theorem dX12_slept_25 : decode cX12_slept 25 = .ok (.ifCond .eq 7, 3) := by decide +kernel
theorem dX12_slept_28 : decode cX12_slept 28 = .ok (.iconst 3, 1) := by decide +kernel
theorem dX12_slept_29 : decode cX12_slept 29 = .ok (.goto 4, 3) := by decide +kernel
theorem dX12_slept_32 : decode cX12_slept 32 = .ok (.iconst 1, 1) := by decide +kernel
theorem dX12_slept_33 : decode cX12_slept 33 = .ok (.iload_n 1, 1) := by decide +kernel
theorem dX12_slept_34 : decode cX12_slept 34 = .ok (.iload_n 2, 1) := by decide +kernel
theorem dX12_slept_35 : decode cX12_slept 35 = .ok (.iload_n 2, 1) := by decide +kernel
theorem dX12_slept_36 : decode cX12_slept 36 = .ok (.iconst 1, 1) := by decide +kernel
theorem dX12_slept_37 : decode cX12_slept 37 = .ok (.iload_n 3, 1) := by decide +kernel
theorem dX12_slept_38 : decode cX12_slept 38 = .ok (.ishl, 1) := by decide +kernel
theorem dX12_slept_39 : decode cX12_slept 39 = .ok (.invokevirtual 121, 3) := by decide +kernel
theorem dX12_slept_42 : decode cX12_slept 42 = .ok (.goto 4, 3) := by decide +kernel
theorem dX12_slept_45 : decode cX12_slept 45 = .ok (.iconst (-1), 1) := by decide +kernel
theorem dX12_slept_46 : decode cX12_slept 46 = .ok (.ireturn, 1) := by decide +kernel
set_option maxRecDepth 20000 in
theorem ggX12_stamp_X12_isPerson : GoodIn wsX12_stamp wsX12_isPerson := goodIn_r _ [5, 6, 7, 8, 4, 9, 43, 44, 45, 46, 47, 48, 49, 50, 51, 52, 53, 54, 55, 56, 57, 58, 59, 60, 61, 62, 63, 64, 65, 66, 67, 68, 69, 70] (by decide +kernel) (by decide +kernel)
set_option maxRecDepth 20000 in
theorem gX12_stamp_X12_isPerson : GoodIn wsX12_stamp (wsV RX12 114 RX12 yX12_isPerson wsX12_isPerson) := goodIn_app (goodIn_of _ (by decide +kernel)) ggX12_stamp_X12_isPerson
set_option maxRecDepth 20000 in
theorem ggX12_stamp_X12_isSpan : GoodIn wsX12_stamp wsX12_isSpan := goodIn_r _ [12, 13, 14, 4, 15, 7, 8, 9] (by decide +kernel) (by decide +kernel)
set_option maxRecDepth 20000 in
theorem gX12_stamp_X12_isSpan : GoodIn wsX12_stamp (va_wsS RX12 117 yX12_isSpan wsX12_isSpan) := goodIn_app (goodIn_of _ (by decide +kernel)) ggX12_stamp_X12_isSpan
set_option maxRecDepth 20000 in
theorem ggX12_stamp_X12_isLand : GoodIn wsX12_stamp wsX12_isLand := goodIn_r _ [18, 7, 8, 4, 9] (by decide +kernel) (by decide +kernel)
set_option maxRecDepth 20000 in
theorem gX12_stamp_X12_isLand : GoodIn wsX12_stamp (va_wsS RX12 97 yX12_isLand wsX12_isLand) := goodIn_app (goodIn_of _ (by decide +kernel)) ggX12_stamp_X12_isLand
set_option maxRecDepth 20000 in
theorem ggX12_stamp_X12_comes : GoodIn wsX12_stamp wsX12_comes := goodIn_r _ [22, 23, 24, 25, 26, 27, 28, 29, 30, 31, 32, 33, 4, 34, 35, 36, 37, 38, 39, 40, 41, 42, 43, 44, 45, 46, 47, 48, 49, 50, 51, 52, 53, 54, 55, 56, 57, 58, 59, 60, 61, 62, 63, 64, 65, 66, 67, 68, 69, 70] (by decide +kernel) (by decide +kernel)
set_option maxRecDepth 20000 in
theorem gX12_stamp_X12_comes : GoodIn wsX12_stamp (wsV RX12 121 RX12 yX12_comes wsX12_comes) := goodIn_app (goodIn_of _ (by decide +kernel)) ggX12_stamp_X12_comes
theorem dX12_stamp_0 : decode cX12_stamp 0 = .ok (.aload_n 0, 1) := by decide +kernel
theorem dX12_stamp_1 : decode cX12_stamp 1 = .ok (.iload_n 1, 1) := by decide +kernel
theorem dX12_stamp_2 : decode cX12_stamp 2 = .ok (.invokevirtual 114, 3) := by decide +kernel
theorem dX12_stamp_5 : decode cX12_stamp 5 = .ok (.ifCond .eq 40, 3) := by decide +kernel
theorem dX12_stamp_8 : decode cX12_stamp 8 = .ok (.iload_n 2, 1) := by decide +kernel
theorem dX12_stamp_9 : decode cX12_stamp 9 = .ok (.iload_n 3, 1) := by decide +kernel
theorem dX12_stamp_10 : decode cX12_stamp 10 = .ok (.invokestatic 117, 3) := by decide +kernel
theorem dX12_stamp_13 : decode cX12_stamp 13 = .ok (.ifCond .eq 32, 3) := by decide +kernel
theorem dX12_stamp_16 : decode cX12_stamp 16 = .ok (.iload 4, 2) := by decide +kernel
theorem dX12_stamp_18 : decode cX12_stamp 18 = .ok (.invokestatic 97, 3) := by decide +kernel
theorem dX12_stamp_21 : decode cX12_stamp 21 = .ok (.ifCond .eq 24, 3) := by decide +kernel
theorem dX12_stamp_24 : decode cX12_stamp 24 = .ok (.aload_n 0, 1) := by decide +kernel
theorem dX12_stamp_25 : decode cX12_stamp 25 = .ok (.iconst 2, 1) := by decide +kernel
theorem dX12_stamp_26 : decode cX12_stamp 26 = .ok (.iload_n 1, 1) := by decide +kernel
theorem dX12_stamp_27 : decode cX12_stamp 27 = .ok (.iload_n 2, 1) := by decide +kernel
theorem dX12_stamp_28 : decode cX12_stamp 28 = .ok (.iload_n 3, 1) := by decide +kernel
theorem dX12_stamp_29 : decode cX12_stamp 29 = .ok (.sipush 255, 3) := by decide +kernel
theorem dX12_stamp_32 : decode cX12_stamp 32 = .ok (.iconst 1, 1) := by decide +kernel
theorem dX12_stamp_33 : decode cX12_stamp 33 = .ok (.iload 4, 2) := by decide +kernel
theorem dX12_stamp_35 : decode cX12_stamp 35 = .ok (.ishl, 1) := by decide +kernel
theorem dX12_stamp_36 : decode cX12_stamp 36 = .ok (.iconst (-1), 1) := by decide +kernel
theorem dX12_stamp_37 : decode cX12_stamp 37 = .ok (.ixor, 1) := by decide +kernel
theorem dX12_stamp_38 : decode cX12_stamp 38 = .ok (.iand, 1) := by decide +kernel
theorem dX12_stamp_39 : decode cX12_stamp 39 = .ok (.invokevirtual 121, 3) := by decide +kernel
theorem dX12_stamp_42 : decode cX12_stamp 42 = .ok (.goto 4, 3) := by decide +kernel
theorem dX12_stamp_45 : decode cX12_stamp 45 = .ok (.iconst (-1), 1) := by decide +kernel
theorem dX12_stamp_46 : decode cX12_stamp 46 = .ok (.ireturn, 1) := by decide +kernel
set_option maxRecDepth 20000 in
theorem ggX12_drop_X12_isMark : GoodIn wsX12_drop wsX12_isMark := goodIn_r _ [7, 8, 9, 10, 6, 11, 28, 29, 30, 31, 32, 33, 34, 35, 36, 37, 38, 39, 40, 41, 42, 43, 44, 45, 46, 47, 48, 49, 50, 51, 52, 53, 54, 55] (by decide +kernel) (by decide +kernel)
set_option maxRecDepth 20000 in
theorem gX12_drop_X12_isMark : GoodIn wsX12_drop (wsV RX12 125 RX12 yX12_isMark wsX12_isMark) := goodIn_app (goodIn_of _ (by decide +kernel)) ggX12_drop_X12_isMark
set_option maxRecDepth 20000 in
theorem ggX12_drop_X12_isWhole : GoodIn wsX12_drop wsX12_isWhole := goodIn_r _ [15, 16, 17, 18, 6, 19, 8, 20, 21, 22, 23, 24, 25, 2, 1, 26, 27, 28, 29, 30, 31, 32, 33, 34, 35, 36, 37, 38, 39, 40, 41, 42, 43, 44, 45, 46, 47, 48, 49, 50, 51, 52, 53, 54, 55] (by decide +kernel) (by decide +kernel)
set_option maxRecDepth 20000 in
theorem gX12_drop_X12_isWhole : GoodIn wsX12_drop (wsV RX12 108 RX12 yX12_isWhole wsX12_isWhole) := goodIn_app (goodIn_of _ (by decide +kernel)) ggX12_drop_X12_isWhole
theorem dX12_drop_0 : decode cX12_drop 0 = .ok (.aload_n 0, 1) := by decide +kernel
theorem dX12_drop_1 : decode cX12_drop 1 = .ok (.iload_n 1, 1) := by decide +kernel
theorem dX12_drop_2 : decode cX12_drop 2 = .ok (.invokevirtual 125, 3) := by decide +kernel
theorem dX12_drop_5 : decode cX12_drop 5 = .ok (.ifCond .ne 5, 3) := by decide +kernel
theorem dX12_drop_8 : decode cX12_drop 8 = .ok (.iconst (-1), 1) := by decide +kernel
theorem dX12_drop_9 : decode cX12_drop 9 = .ok (.ireturn, 1) := by decide +kernel
theorem dX12_drop_10 : decode cX12_drop 10 = .ok (.aload_n 0, 1) := by decide +kernel
theorem dX12_drop_11 : decode cX12_drop 11 = .ok (.getfield 35, 3) := by decide +kernel
theorem dX12_drop_14 : decode cX12_drop 14 = .ok (.iload_n 1, 1) := by decide +kernel
theorem dX12_drop_15 : decode cX12_drop 15 = .ok (.baload, 1) := by decide +kernel
theorem dX12_drop_16 : decode cX12_drop 16 = .ok (.iload_n 2, 1) := by decide +kernel
theorem dX12_drop_17 : decode cX12_drop 17 = .ok (.if_icmp .ne 5, 3) := by decide +kernel
theorem dX12_drop_20 : decode cX12_drop 20 = .ok (.iconst 0, 1) := by decide +kernel
theorem dX12_drop_21 : decode cX12_drop 21 = .ok (.ireturn, 1) := by decide +kernel
theorem dX12_drop_22 : decode cX12_drop 22 = .ok (.aload_n 0, 1) := by decide +kernel
theorem dX12_drop_23 : decode cX12_drop 23 = .ok (.getfield 35, 3) := by decide +kernel
theorem dX12_drop_26 : decode cX12_drop 26 = .ok (.iload_n 1, 1) := by decide +kernel
theorem dX12_drop_27 : decode cX12_drop 27 = .ok (.iload_n 2, 1) := by decide +kernel
theorem dX12_drop_28 : decode cX12_drop 28 = .ok (.bastore, 1) := by decide +kernel
theorem dX12_drop_29 : decode cX12_drop 29 = .ok (.aload_n 0, 1) := by decide +kernel
theorem dX12_drop_30 : decode cX12_drop 30 = .ok (.aload_n 0, 1) := by decide +kernel
theorem dX12_drop_31 : decode cX12_drop 31 = .ok (.getfield 23, 3) := by decide +kernel
theorem dX12_drop_34 : decode cX12_drop 34 = .ok (.iload_n 1, 1) := by decide +kernel
theorem dX12_drop_35 : decode cX12_drop 35 = .ok (.iaload, 1) := by decide +kernel
theorem dX12_drop_36 : decode cX12_drop 36 = .ok (.invokevirtual 108, 3) := by decide +kernel
theorem dX12_drop_39 : decode cX12_drop 39 = .ok (.ifCond .ne 21, 3) := by decide +kernel
theorem dX12_drop_42 : decode cX12_drop 42 = .ok (.aload_n 0, 1) := by decide +kernel
theorem dX12_drop_43 : decode cX12_drop 43 = .ok (.getfield 35, 3) := by decide +kernel
theorem dX12_drop_46 : decode cX12_drop 46 = .ok (.iload_n 1, 1) := by decide +kernel
theorem dX12_drop_47 : decode cX12_drop 47 = .ok (.iload_n 2, 1) := by decide +kernel
theorem dX12_drop_48 : decode cX12_drop 48 = .ok (.ifCond .ne 7, 3) := by decide +kernel
theorem dX12_drop_51 : decode cX12_drop 51 = .ok (.iconst 1, 1) := by decide +kernel
theorem dX12_drop_52 : decode cX12_drop 52 = .ok (.goto 4, 3) := by decide +kernel
theorem dX12_drop_55 : decode cX12_drop 55 = .ok (.iconst 0, 1) := by decide +kernel
theorem dX12_drop_56 : decode cX12_drop 56 = .ok (.bastore, 1) := by decide +kernel
theorem dX12_drop_57 : decode cX12_drop 57 = .ok (.bipush (-4), 2) := by decide +kernel
theorem dX12_drop_59 : decode cX12_drop 59 = .ok (.ireturn, 1) := by decide +kernel
theorem dX12_drop_60 : decode cX12_drop 60 = .ok (.iconst 1, 1) := by decide +kernel
theorem dX12_drop_61 : decode cX12_drop 61 = .ok (.ireturn, 1) := by decide +kernel
set_option maxRecDepth 20000 in
theorem ggX12_mark_X12_isMark : GoodIn wsX12_mark wsX12_isMark := goodIn_r _ [11, 12, 13, 14, 10, 15, 16, 17, 18, 19, 20, 21, 22, 23, 24, 25, 26, 27, 28, 29, 30, 31, 32, 33, 34, 35, 36, 37, 38, 39, 40, 41, 42, 43] (by decide +kernel) (by decide +kernel)
set_option maxRecDepth 20000 in
theorem gX12_mark_X12_isMark : GoodIn wsX12_mark (wsV RX12 125 RX12 yX12_isMark wsX12_isMark) := goodIn_app (goodIn_of _ (by decide +kernel)) ggX12_mark_X12_isMark
theorem dX12_mark_0 : decode cX12_mark 0 = .ok (.aload_n 0, 1) := by decide +kernel
theorem dX12_mark_1 : decode cX12_mark 1 = .ok (.iload_n 1, 1) := by decide +kernel
theorem dX12_mark_2 : decode cX12_mark 2 = .ok (.invokevirtual 125, 3) := by decide +kernel
theorem dX12_mark_5 : decode cX12_mark 5 = .ok (.ifCond .ne 5, 3) := by decide +kernel
theorem dX12_mark_8 : decode cX12_mark 8 = .ok (.iconst (-1), 1) := by decide +kernel
theorem dX12_mark_9 : decode cX12_mark 9 = .ok (.ireturn, 1) := by decide +kernel
theorem dX12_mark_10 : decode cX12_mark 10 = .ok (.iload_n 2, 1) := by decide +kernel
theorem dX12_mark_11 : decode cX12_mark 11 = .ok (.tableswitch 87 0 5 #[37, 44, 51, 58, 65, 72], 37) := by decide +kernel
theorem dX12_mark_48 : decode cX12_mark 48 = .ok (.aload_n 0, 1) := by decide +kernel
theorem dX12_mark_49 : decode cX12_mark 49 = .ok (.getfield 20, 3) := by decide +kernel
theorem dX12_mark_52 : decode cX12_mark 52 = .ok (.iload_n 1, 1) := by decide +kernel
theorem dX12_mark_53 : decode cX12_mark 53 = .ok (.iaload, 1) := by decide +kernel
theorem dX12_mark_54 : decode cX12_mark 54 = .ok (.ireturn, 1) := by decide +kernel
theorem dX12_mark_55 : decode cX12_mark 55 = .ok (.aload_n 0, 1) := by decide +kernel
theorem dX12_mark_56 : decode cX12_mark 56 = .ok (.getfield 23, 3) := by decide +kernel
theorem dX12_mark_59 : decode cX12_mark 59 = .ok (.iload_n 1, 1) := by decide +kernel
theorem dX12_mark_60 : decode cX12_mark 60 = .ok (.iaload, 1) := by decide +kernel
theorem dX12_mark_61 : decode cX12_mark 61 = .ok (.ireturn, 1) := by decide +kernel
theorem dX12_mark_62 : decode cX12_mark 62 = .ok (.aload_n 0, 1) := by decide +kernel
theorem dX12_mark_63 : decode cX12_mark 63 = .ok (.getfield 26, 3) := by decide +kernel
theorem dX12_mark_66 : decode cX12_mark 66 = .ok (.iload_n 1, 1) := by decide +kernel
theorem dX12_mark_67 : decode cX12_mark 67 = .ok (.iaload, 1) := by decide +kernel
theorem dX12_mark_68 : decode cX12_mark 68 = .ok (.ireturn, 1) := by decide +kernel
theorem dX12_mark_69 : decode cX12_mark 69 = .ok (.aload_n 0, 1) := by decide +kernel
theorem dX12_mark_70 : decode cX12_mark 70 = .ok (.getfield 29, 3) := by decide +kernel
theorem dX12_mark_73 : decode cX12_mark 73 = .ok (.iload_n 1, 1) := by decide +kernel
theorem dX12_mark_74 : decode cX12_mark 74 = .ok (.iaload, 1) := by decide +kernel
theorem dX12_mark_75 : decode cX12_mark 75 = .ok (.ireturn, 1) := by decide +kernel
theorem dX12_mark_76 : decode cX12_mark 76 = .ok (.aload_n 0, 1) := by decide +kernel
theorem dX12_mark_77 : decode cX12_mark 77 = .ok (.getfield 32, 3) := by decide +kernel
theorem dX12_mark_80 : decode cX12_mark 80 = .ok (.iload_n 1, 1) := by decide +kernel
theorem dX12_mark_81 : decode cX12_mark 81 = .ok (.iaload, 1) := by decide +kernel
theorem dX12_mark_82 : decode cX12_mark 82 = .ok (.ireturn, 1) := by decide +kernel
theorem dX12_mark_83 : decode cX12_mark 83 = .ok (.aload_n 0, 1) := by decide +kernel
theorem dX12_mark_84 : decode cX12_mark 84 = .ok (.getfield 35, 3) := by decide +kernel
theorem dX12_mark_87 : decode cX12_mark 87 = .ok (.iload_n 1, 1) := by decide +kernel
theorem dX12_mark_88 : decode cX12_mark 88 = .ok (.baload, 1) := by decide +kernel
theorem dX12_mark_89 : decode cX12_mark 89 = .ok (.ifCond .eq 7, 3) := by decide +kernel
theorem dX12_mark_92 : decode cX12_mark 92 = .ok (.iconst 1, 1) := by decide +kernel
theorem dX12_mark_93 : decode cX12_mark 93 = .ok (.goto 4, 3) := by decide +kernel
theorem dX12_mark_96 : decode cX12_mark 96 = .ok (.iconst 0, 1) := by decide +kernel
theorem dX12_mark_97 : decode cX12_mark 97 = .ok (.ireturn, 1) := by decide +kernel
theorem dX12_mark_98 : decode cX12_mark 98 = .ok (.iconst (-1), 1) := by decide +kernel
theorem dX12_mark_99 : decode cX12_mark 99 = .ok (.ireturn, 1) := by decide +kernel
set_option maxRecDepth 20000 in
theorem ggX12_can_X12_isPerson : GoodIn wsX12_can wsX12_isPerson := goodIn_r _ [5, 6, 7, 8, 4, 9, 28, 29, 30, 31, 32, 33, 34, 35, 36, 37, 38, 39, 40, 41, 42, 43, 44, 45, 46, 47, 48, 49, 50, 51, 52, 53, 54, 55] (by decide +kernel) (by decide +kernel)
set_option maxRecDepth 20000 in
theorem gX12_can_X12_isPerson : GoodIn wsX12_can (wsV RX12 114 RX12 yX12_isPerson wsX12_isPerson) := goodIn_app (goodIn_of _ (by decide +kernel)) ggX12_can_X12_isPerson
set_option maxRecDepth 20000 in
theorem ggX12_can_X12_isDay : GoodIn wsX12_can wsX12_isDay := goodIn_r _ [12, 7, 8, 4, 9] (by decide +kernel) (by decide +kernel)
set_option maxRecDepth 20000 in
theorem gX12_can_X12_isDay : GoodIn wsX12_can (va_wsS RX12 111 yX12_isDay wsX12_isDay) := goodIn_app (goodIn_of _ (by decide +kernel)) ggX12_can_X12_isDay
set_option maxRecDepth 20000 in
theorem ggX12_can_X12_canOf : GoodIn wsX12_can wsX12_canOf := goodIn_r _ [16, 17, 18, 19, 20, 21, 22, 4, 23, 24, 25, 26, 27, 28, 29, 30, 31, 32, 33, 34, 35, 36, 37, 38, 39, 40, 41, 42, 43, 44, 45, 46, 47, 48, 49, 50, 51, 52, 53, 54, 55] (by decide +kernel) (by decide +kernel)
set_option maxRecDepth 20000 in
theorem gX12_can_X12_canOf : GoodIn wsX12_can (wsV RX12 104 RX12 yX12_canOf wsX12_canOf) := goodIn_app (goodIn_of _ (by decide +kernel)) ggX12_can_X12_canOf
theorem dX12_can_0 : decode cX12_can 0 = .ok (.aload_n 0, 1) := by decide +kernel
theorem dX12_can_1 : decode cX12_can 1 = .ok (.iload_n 1, 1) := by decide +kernel
theorem dX12_can_2 : decode cX12_can 2 = .ok (.invokevirtual 114, 3) := by decide +kernel
theorem dX12_can_5 : decode cX12_can 5 = .ok (.ifCond .eq 19, 3) := by decide +kernel
theorem dX12_can_8 : decode cX12_can 8 = .ok (.iload_n 2, 1) := by decide +kernel
theorem dX12_can_9 : decode cX12_can 9 = .ok (.invokestatic 111, 3) := by decide +kernel
theorem dX12_can_12 : decode cX12_can 12 = .ok (.ifCond .eq 12, 3) := by decide +kernel
theorem dX12_can_15 : decode cX12_can 15 = .ok (.aload_n 0, 1) := by decide +kernel
theorem dX12_can_16 : decode cX12_can 16 = .ok (.iload_n 1, 1) := by decide +kernel
theorem dX12_can_17 : decode cX12_can 17 = .ok (.iload_n 2, 1) := by decide +kernel
theorem dX12_can_18 : decode cX12_can 18 = .ok (.invokevirtual 104, 3) := by decide +kernel
theorem dX12_can_21 : decode cX12_can 21 = .ok (.goto 4, 3) := by decide +kernel
theorem dX12_can_24 : decode cX12_can 24 = .ok (.iconst (-1), 1) := by decide +kernel
theorem dX12_can_25 : decode cX12_can 25 = .ok (.ireturn, 1) := by decide +kernel
theorem dX12_addLand_0 : decode cX12_addLand 0 = .ok (.aload_n 0, 1) := by decide +kernel
theorem dX12_addLand_1 : decode cX12_addLand 1 = .ok (.getfield 41, 3) := by decide +kernel
theorem dX12_addLand_4 : decode cX12_addLand 4 = .ok (.sipush 401, 3) := by decide +kernel
theorem dX12_addLand_7 : decode cX12_addLand 7 = .ok (.iload_n 1, 1) := by decide +kernel
theorem dX12_addLand_8 : decode cX12_addLand 8 = .ok (.imul, 1) := by decide +kernel
theorem dX12_addLand_9 : decode cX12_addLand 9 = .ok (.iconst 0, 1) := by decide +kernel
theorem dX12_addLand_10 : decode cX12_addLand 10 = .ok (.iastore, 1) := by decide +kernel
theorem dX12_addLand_11 : decode cX12_addLand 11 = .ok (.aload_n 0, 1) := by decide +kernel
theorem dX12_addLand_12 : decode cX12_addLand 12 = .ok (.getfield 44, 3) := by decide +kernel
theorem dX12_addLand_15 : decode cX12_addLand 15 = .ok (.sipush 401, 3) := by decide +kernel
theorem dX12_addLand_18 : decode cX12_addLand 18 = .ok (.iload_n 1, 1) := by decide +kernel
theorem dX12_addLand_19 : decode cX12_addLand 19 = .ok (.imul, 1) := by decide +kernel
theorem dX12_addLand_20 : decode cX12_addLand 20 = .ok (.iconst 0, 1) := by decide +kernel
theorem dX12_addLand_21 : decode cX12_addLand 21 = .ok (.iastore, 1) := by decide +kernel
theorem dX12_addLand_22 : decode cX12_addLand 22 = .ok (.iconst 0, 1) := by decide +kernel
theorem dX12_addLand_23 : decode cX12_addLand 23 = .ok (.istore_n 2, 1) := by decide +kernel
theorem dX12_addLand_24 : decode cX12_addLand 24 = .ok (.iload_n 2, 1) := by decide +kernel
theorem dX12_addLand_25 : decode cX12_addLand 25 = .ok (.sipush 400, 3) := by decide +kernel
theorem dX12_addLand_28 : decode cX12_addLand 28 = .ok (.if_icmp .ge 90, 3) := by decide +kernel
theorem dX12_addLand_31 : decode cX12_addLand 31 = .ok (.aload_n 0, 1) := by decide +kernel
theorem dX12_addLand_32 : decode cX12_addLand 32 = .ok (.getfield 41, 3) := by decide +kernel
theorem dX12_addLand_35 : decode cX12_addLand 35 = .ok (.sipush 401, 3) := by decide +kernel
theorem dX12_addLand_38 : decode cX12_addLand 38 = .ok (.iload_n 1, 1) := by decide +kernel
theorem dX12_addLand_39 : decode cX12_addLand 39 = .ok (.imul, 1) := by decide +kernel
theorem dX12_addLand_40 : decode cX12_addLand 40 = .ok (.iload_n 2, 1) := by decide +kernel
theorem dX12_addLand_41 : decode cX12_addLand 41 = .ok (.iadd, 1) := by decide +kernel
theorem dX12_addLand_42 : decode cX12_addLand 42 = .ok (.iconst 1, 1) := by decide +kernel
theorem dX12_addLand_43 : decode cX12_addLand 43 = .ok (.iadd, 1) := by decide +kernel
theorem dX12_addLand_44 : decode cX12_addLand 44 = .ok (.aload_n 0, 1) := by decide +kernel
theorem dX12_addLand_45 : decode cX12_addLand 45 = .ok (.getfield 41, 3) := by decide +kernel
theorem dX12_addLand_48 : decode cX12_addLand 48 = .ok (.sipush 401, 3) := by decide +kernel
theorem dX12_addLand_51 : decode cX12_addLand 51 = .ok (.iload_n 1, 1) := by decide +kernel
theorem dX12_addLand_52 : decode cX12_addLand 52 = .ok (.imul, 1) := by decide +kernel
theorem dX12_addLand_53 : decode cX12_addLand 53 = .ok (.iload_n 2, 1) := by decide +kernel
theorem dX12_addLand_54 : decode cX12_addLand 54 = .ok (.iadd, 1) := by decide +kernel
theorem dX12_addLand_55 : decode cX12_addLand 55 = .ok (.iaload, 1) := by decide +kernel
theorem dX12_addLand_56 : decode cX12_addLand 56 = .ok (.aload_n 0, 1) := by decide +kernel
theorem dX12_addLand_57 : decode cX12_addLand 57 = .ok (.getfield 38, 3) := by decide +kernel
theorem dX12_addLand_60 : decode cX12_addLand 60 = .ok (.iload_n 2, 1) := by decide +kernel
theorem dX12_addLand_61 : decode cX12_addLand 61 = .ok (.iaload, 1) := by decide +kernel
theorem dX12_addLand_62 : decode cX12_addLand 62 = .ok (.iconst 1, 1) := by decide +kernel
theorem dX12_addLand_63 : decode cX12_addLand 63 = .ok (.iload_n 1, 1) := by decide +kernel
theorem dX12_addLand_64 : decode cX12_addLand 64 = .ok (.ishl, 1) := by decide +kernel
theorem dX12_addLand_65 : decode cX12_addLand 65 = .ok (.if_icmp .ne 7, 3) := by decide +kernel
theorem dX12_addLand_68 : decode cX12_addLand 68 = .ok (.iconst 1, 1) := by decide +kernel
theorem dX12_addLand_69 : decode cX12_addLand 69 = .ok (.goto 4, 3) := by decide +kernel
theorem dX12_addLand_72 : decode cX12_addLand 72 = .ok (.iconst 0, 1) := by decide +kernel
theorem dX12_addLand_73 : decode cX12_addLand 73 = .ok (.iadd, 1) := by decide +kernel
theorem dX12_addLand_74 : decode cX12_addLand 74 = .ok (.iastore, 1) := by decide +kernel
theorem dX12_addLand_75 : decode cX12_addLand 75 = .ok (.aload_n 0, 1) := by decide +kernel
theorem dX12_addLand_76 : decode cX12_addLand 76 = .ok (.getfield 44, 3) := by decide +kernel
theorem dX12_addLand_79 : decode cX12_addLand 79 = .ok (.sipush 401, 3) := by decide +kernel
theorem dX12_addLand_82 : decode cX12_addLand 82 = .ok (.iload_n 1, 1) := by decide +kernel
theorem dX12_addLand_83 : decode cX12_addLand 83 = .ok (.imul, 1) := by decide +kernel
theorem dX12_addLand_84 : decode cX12_addLand 84 = .ok (.iload_n 2, 1) := by decide +kernel
theorem dX12_addLand_85 : decode cX12_addLand 85 = .ok (.iadd, 1) := by decide +kernel
theorem dX12_addLand_86 : decode cX12_addLand 86 = .ok (.iconst 1, 1) := by decide +kernel
theorem dX12_addLand_87 : decode cX12_addLand 87 = .ok (.iadd, 1) := by decide +kernel
theorem dX12_addLand_88 : decode cX12_addLand 88 = .ok (.aload_n 0, 1) := by decide +kernel
theorem dX12_addLand_89 : decode cX12_addLand 89 = .ok (.getfield 44, 3) := by decide +kernel
theorem dX12_addLand_92 : decode cX12_addLand 92 = .ok (.sipush 401, 3) := by decide +kernel
theorem dX12_addLand_95 : decode cX12_addLand 95 = .ok (.iload_n 1, 1) := by decide +kernel
theorem dX12_addLand_96 : decode cX12_addLand 96 = .ok (.imul, 1) := by decide +kernel
theorem dX12_addLand_97 : decode cX12_addLand 97 = .ok (.iload_n 2, 1) := by decide +kernel
theorem dX12_addLand_98 : decode cX12_addLand 98 = .ok (.iadd, 1) := by decide +kernel
theorem dX12_addLand_99 : decode cX12_addLand 99 = .ok (.iaload, 1) := by decide +kernel
theorem dX12_addLand_100 : decode cX12_addLand 100 = .ok (.aload_n 0, 1) := by decide +kernel
theorem dX12_addLand_101 : decode cX12_addLand 101 = .ok (.getfield 38, 3) := by decide +kernel
theorem dX12_addLand_104 : decode cX12_addLand 104 = .ok (.iload_n 2, 1) := by decide +kernel
theorem dX12_addLand_105 : decode cX12_addLand 105 = .ok (.iaload, 1) := by decide +kernel
theorem dX12_addLand_106 : decode cX12_addLand 106 = .ok (.iload_n 1, 1) := by decide +kernel
theorem dX12_addLand_107 : decode cX12_addLand 107 = .ok (.ishr, 1) := by decide +kernel
theorem dX12_addLand_108 : decode cX12_addLand 108 = .ok (.iconst 1, 1) := by decide +kernel
theorem dX12_addLand_109 : decode cX12_addLand 109 = .ok (.iand, 1) := by decide +kernel
theorem dX12_addLand_110 : decode cX12_addLand 110 = .ok (.iadd, 1) := by decide +kernel
theorem dX12_addLand_111 : decode cX12_addLand 111 = .ok (.iastore, 1) := by decide +kernel
theorem dX12_addLand_112 : decode cX12_addLand 112 = .ok (.iinc 2 1, 3) := by decide +kernel
theorem dX12_addLand_115 : decode cX12_addLand 115 = .ok (.goto (-91), 3) := by decide +kernel
theorem dX12_addLand_118 : decode cX12_addLand 118 = .ok (.return_, 1) := by decide +kernel
set_option maxRecDepth 20000 in
theorem ggX12_add_X12_addLand : GoodIn wsX12_add wsX12_addLand := goodIn_r _ [5, 6, 7, 8, 9, 10, 11, 12, 13, 14, 15, 16, 17, 18, 19, 20, 21, 22, 23, 24, 25, 26, 27, 28, 29, 30, 31, 32, 33, 34, 35, 36] (by decide +kernel) (by decide +kernel)
set_option maxRecDepth 20000 in
theorem gX12_add_X12_addLand : GoodIn wsX12_add (wsV RX12 128 RX12 yX12_addLand wsX12_addLand) := goodIn_app (goodIn_of _ (by decide +kernel)) ggX12_add_X12_addLand
theorem dX12_add_0 : decode cX12_add 0 = .ok (.iconst 0, 1) := by decide +kernel
theorem dX12_add_1 : decode cX12_add 1 = .ok (.istore_n 1, 1) := by decide +kernel
theorem dX12_add_2 : decode cX12_add 2 = .ok (.iload_n 1, 1) := by decide +kernel
theorem dX12_add_3 : decode cX12_add 3 = .ok (.bipush 8, 2) := by decide +kernel
theorem dX12_add_5 : decode cX12_add 5 = .ok (.if_icmp .ge 14, 3) := by decide +kernel
theorem dX12_add_8 : decode cX12_add 8 = .ok (.aload_n 0, 1) := by decide +kernel
theorem dX12_add_9 : decode cX12_add 9 = .ok (.iload_n 1, 1) := by decide +kernel
theorem dX12_add_10 : decode cX12_add 10 = .ok (.invokevirtual 128, 3) := by decide +kernel
theorem dX12_add_13 : decode cX12_add 13 = .ok (.iinc 1 1, 3) := by decide +kernel
theorem dX12_add_16 : decode cX12_add 16 = .ok (.goto (-14), 3) := by decide +kernel
theorem dX12_add_19 : decode cX12_add 19 = .ok (.return_, 1) := by decide +kernel
set_option maxRecDepth 20000 in
theorem ggX12_lay_X12_canOf : GoodIn wsX12_lay wsX12_canOf := goodIn_r _ [6, 7, 8, 9, 10, 11, 12, 5, 13, 14, 15, 16, 17, 28, 29, 30, 31, 32, 33, 34, 35, 36, 37, 38, 39, 40, 41, 42, 43, 44, 45, 46, 47, 48, 49, 50, 51, 52, 53, 54, 55] (by decide +kernel) (by decide +kernel)
set_option maxRecDepth 20000 in
theorem gX12_lay_X12_canOf : GoodIn wsX12_lay (wsV RX12 104 RX12 yX12_canOf wsX12_canOf) := goodIn_app (goodIn_of _ (by decide +kernel)) ggX12_lay_X12_canOf
set_option maxRecDepth 20000 in
theorem ggX12_lay_X12_add : GoodIn wsX12_lay wsX12_add := goodIn_r _ [21, 22, 23, 24, 5, 25, 26, 27, 1, 28, 29, 30, 31, 32, 33, 34, 35, 36, 37, 38, 39, 40, 41, 42, 43, 44, 45, 46, 47, 48, 49, 50, 51, 52, 53, 54, 55] (by decide +kernel) (by decide +kernel)
set_option maxRecDepth 20000 in
theorem gX12_lay_X12_add : GoodIn wsX12_lay (wsV RX12 132 RX12 yX12_add wsX12_add) := goodIn_app (goodIn_of _ (by decide +kernel)) ggX12_lay_X12_add
theorem dX12_lay_0 : decode cX12_lay 0 = .ok (.iconst 0, 1) := by decide +kernel
theorem dX12_lay_1 : decode cX12_lay 1 = .ok (.istore_n 2, 1) := by decide +kernel
theorem dX12_lay_2 : decode cX12_lay 2 = .ok (.iload_n 2, 1) := by decide +kernel
theorem dX12_lay_3 : decode cX12_lay 3 = .ok (.sipush 400, 3) := by decide +kernel
theorem dX12_lay_6 : decode cX12_lay 6 = .ok (.if_icmp .ge 21, 3) := by decide +kernel
theorem dX12_lay_9 : decode cX12_lay 9 = .ok (.aload_n 0, 1) := by decide +kernel
theorem dX12_lay_10 : decode cX12_lay 10 = .ok (.getfield 38, 3) := by decide +kernel
theorem dX12_lay_13 : decode cX12_lay 13 = .ok (.iload_n 2, 1) := by decide +kernel
theorem dX12_lay_14 : decode cX12_lay 14 = .ok (.aload_n 0, 1) := by decide +kernel
theorem dX12_lay_15 : decode cX12_lay 15 = .ok (.iload_n 1, 1) := by decide +kernel
theorem dX12_lay_16 : decode cX12_lay 16 = .ok (.iload_n 2, 1) := by decide +kernel
theorem dX12_lay_17 : decode cX12_lay 17 = .ok (.invokevirtual 104, 3) := by decide +kernel
theorem dX12_lay_20 : decode cX12_lay 20 = .ok (.iastore, 1) := by decide +kernel
theorem dX12_lay_21 : decode cX12_lay 21 = .ok (.iinc 2 1, 3) := by decide +kernel
theorem dX12_lay_24 : decode cX12_lay 24 = .ok (.goto (-22), 3) := by decide +kernel
theorem dX12_lay_27 : decode cX12_lay 27 = .ok (.aload_n 0, 1) := by decide +kernel
theorem dX12_lay_28 : decode cX12_lay 28 = .ok (.invokevirtual 132, 3) := by decide +kernel
theorem dX12_lay_31 : decode cX12_lay 31 = .ok (.return_, 1) := by decide +kernel
theorem dX12_leastOf_0 : decode cX12_leastOf 0 = .ok (.aload_n 0, 1) := by decide +kernel
theorem dX12_leastOf_1 : decode cX12_leastOf 1 = .ok (.getfield 41, 3) := by decide +kernel
theorem dX12_leastOf_4 : decode cX12_leastOf 4 = .ok (.sipush 401, 3) := by decide +kernel
theorem dX12_leastOf_7 : decode cX12_leastOf 7 = .ok (.iload_n 1, 1) := by decide +kernel
theorem dX12_leastOf_8 : decode cX12_leastOf 8 = .ok (.imul, 1) := by decide +kernel
theorem dX12_leastOf_9 : decode cX12_leastOf 9 = .ok (.iload_n 3, 1) := by decide +kernel
theorem dX12_leastOf_10 : decode cX12_leastOf 10 = .ok (.iadd, 1) := by decide +kernel
theorem dX12_leastOf_11 : decode cX12_leastOf 11 = .ok (.iconst 1, 1) := by decide +kernel
theorem dX12_leastOf_12 : decode cX12_leastOf 12 = .ok (.iadd, 1) := by decide +kernel
theorem dX12_leastOf_13 : decode cX12_leastOf 13 = .ok (.iaload, 1) := by decide +kernel
theorem dX12_leastOf_14 : decode cX12_leastOf 14 = .ok (.aload_n 0, 1) := by decide +kernel
theorem dX12_leastOf_15 : decode cX12_leastOf 15 = .ok (.getfield 41, 3) := by decide +kernel
theorem dX12_leastOf_18 : decode cX12_leastOf 18 = .ok (.sipush 401, 3) := by decide +kernel
theorem dX12_leastOf_21 : decode cX12_leastOf 21 = .ok (.iload_n 1, 1) := by decide +kernel
theorem dX12_leastOf_22 : decode cX12_leastOf 22 = .ok (.imul, 1) := by decide +kernel
theorem dX12_leastOf_23 : decode cX12_leastOf 23 = .ok (.iload_n 2, 1) := by decide +kernel
theorem dX12_leastOf_24 : decode cX12_leastOf 24 = .ok (.iadd, 1) := by decide +kernel
theorem dX12_leastOf_25 : decode cX12_leastOf 25 = .ok (.iaload, 1) := by decide +kernel
theorem dX12_leastOf_26 : decode cX12_leastOf 26 = .ok (.isub, 1) := by decide +kernel
theorem dX12_leastOf_27 : decode cX12_leastOf 27 = .ok (.ireturn, 1) := by decide +kernel
theorem dX12_mostOf_0 : decode cX12_mostOf 0 = .ok (.aload_n 0, 1) := by decide +kernel
theorem dX12_mostOf_1 : decode cX12_mostOf 1 = .ok (.getfield 44, 3) := by decide +kernel
theorem dX12_mostOf_4 : decode cX12_mostOf 4 = .ok (.sipush 401, 3) := by decide +kernel
theorem dX12_mostOf_7 : decode cX12_mostOf 7 = .ok (.iload_n 1, 1) := by decide +kernel
theorem dX12_mostOf_8 : decode cX12_mostOf 8 = .ok (.imul, 1) := by decide +kernel
theorem dX12_mostOf_9 : decode cX12_mostOf 9 = .ok (.iload_n 3, 1) := by decide +kernel
theorem dX12_mostOf_10 : decode cX12_mostOf 10 = .ok (.iadd, 1) := by decide +kernel
theorem dX12_mostOf_11 : decode cX12_mostOf 11 = .ok (.iconst 1, 1) := by decide +kernel
theorem dX12_mostOf_12 : decode cX12_mostOf 12 = .ok (.iadd, 1) := by decide +kernel
theorem dX12_mostOf_13 : decode cX12_mostOf 13 = .ok (.iaload, 1) := by decide +kernel
theorem dX12_mostOf_14 : decode cX12_mostOf 14 = .ok (.aload_n 0, 1) := by decide +kernel
theorem dX12_mostOf_15 : decode cX12_mostOf 15 = .ok (.getfield 44, 3) := by decide +kernel
theorem dX12_mostOf_18 : decode cX12_mostOf 18 = .ok (.sipush 401, 3) := by decide +kernel
theorem dX12_mostOf_21 : decode cX12_mostOf 21 = .ok (.iload_n 1, 1) := by decide +kernel
theorem dX12_mostOf_22 : decode cX12_mostOf 22 = .ok (.imul, 1) := by decide +kernel
theorem dX12_mostOf_23 : decode cX12_mostOf 23 = .ok (.iload_n 2, 1) := by decide +kernel
theorem dX12_mostOf_24 : decode cX12_mostOf 24 = .ok (.iadd, 1) := by decide +kernel
theorem dX12_mostOf_25 : decode cX12_mostOf 25 = .ok (.iaload, 1) := by decide +kernel
theorem dX12_mostOf_26 : decode cX12_mostOf 26 = .ok (.isub, 1) := by decide +kernel
theorem dX12_mostOf_27 : decode cX12_mostOf 27 = .ok (.ireturn, 1) := by decide +kernel
set_option maxRecDepth 20000 in
theorem ggX12_nights_X12_isPerson : GoodIn wsX12_nights wsX12_isPerson := goodIn_r _ [5, 6, 7, 8, 4, 9, 57, 58, 59, 60, 61, 62, 63, 64, 65, 66, 67, 68, 69, 70, 71, 72, 73, 74, 75, 76, 77, 78, 79, 80, 81, 82, 83, 84] (by decide +kernel) (by decide +kernel)
set_option maxRecDepth 20000 in
theorem gX12_nights_X12_isPerson : GoodIn wsX12_nights (wsV RX12 114 RX12 yX12_isPerson wsX12_isPerson) := goodIn_app (goodIn_of _ (by decide +kernel)) ggX12_nights_X12_isPerson
set_option maxRecDepth 20000 in
theorem ggX12_nights_X12_isLand : GoodIn wsX12_nights wsX12_isLand := goodIn_r _ [12, 7, 8, 4, 9] (by decide +kernel) (by decide +kernel)
set_option maxRecDepth 20000 in
theorem gX12_nights_X12_isLand : GoodIn wsX12_nights (va_wsS RX12 97 yX12_isLand wsX12_isLand) := goodIn_app (goodIn_of _ (by decide +kernel)) ggX12_nights_X12_isLand
set_option maxRecDepth 20000 in
theorem ggX12_nights_X12_isSpan : GoodIn wsX12_nights wsX12_isSpan := goodIn_r _ [15, 16, 17, 4, 18, 7, 8, 9] (by decide +kernel) (by decide +kernel)
set_option maxRecDepth 20000 in
theorem gX12_nights_X12_isSpan : GoodIn wsX12_nights (va_wsS RX12 117 yX12_isSpan wsX12_isSpan) := goodIn_app (goodIn_of _ (by decide +kernel)) ggX12_nights_X12_isSpan
set_option maxRecDepth 20000 in
theorem ggX12_nights_X12_lay : GoodIn wsX12_nights wsX12_lay := goodIn_r _ [22, 23, 24, 25, 26, 4, 27, 28, 29, 30, 31, 32, 33, 34, 35, 36, 37, 38, 39, 40, 41, 42, 43, 44, 45, 46, 47, 48, 57, 58, 59, 60, 61, 62, 63, 64, 65, 66, 67, 68, 69, 70, 71, 72, 73, 74, 75, 76, 77, 78, 79, 80, 81, 82, 83, 84] (by decide +kernel) (by decide +kernel)
set_option maxRecDepth 20000 in
theorem gX12_nights_X12_lay : GoodIn wsX12_nights (wsV RX12 135 RX12 yX12_lay wsX12_lay) := goodIn_app (goodIn_of _ (by decide +kernel)) ggX12_nights_X12_lay
set_option maxRecDepth 20000 in
theorem ggX12_nights_X12_mostOf : GoodIn wsX12_nights wsX12_mostOf := goodIn_r _ [52, 48, 57, 58, 59, 60, 61, 62, 63, 64, 65, 66, 67, 68, 69, 70, 71, 72, 73, 74, 75, 76, 77, 78, 79, 80, 81, 82, 83, 84] (by decide +kernel) (by decide +kernel)
set_option maxRecDepth 20000 in
theorem gX12_nights_X12_mostOf : GoodIn wsX12_nights (wsV RX12 138 RX12 yX12_mostOf wsX12_mostOf) := goodIn_app (goodIn_of _ (by decide +kernel)) ggX12_nights_X12_mostOf
set_option maxRecDepth 20000 in
theorem ggX12_nights_X12_leastOf : GoodIn wsX12_nights wsX12_leastOf := goodIn_r _ [56, 47, 57, 58, 59, 60, 61, 62, 63, 64, 65, 66, 67, 68, 69, 70, 71, 72, 73, 74, 75, 76, 77, 78, 79, 80, 81, 82, 83, 84] (by decide +kernel) (by decide +kernel)
set_option maxRecDepth 20000 in
theorem gX12_nights_X12_leastOf : GoodIn wsX12_nights (wsV RX12 142 RX12 yX12_leastOf wsX12_leastOf) := goodIn_app (goodIn_of _ (by decide +kernel)) ggX12_nights_X12_leastOf
theorem dX12_nights_0 : decode cX12_nights 0 = .ok (.aload_n 0, 1) := by decide +kernel
theorem dX12_nights_1 : decode cX12_nights 1 = .ok (.iload_n 1, 1) := by decide +kernel
theorem dX12_nights_2 : decode cX12_nights 2 = .ok (.invokevirtual 114, 3) := by decide +kernel
theorem dX12_nights_5 : decode cX12_nights 5 = .ok (.ifCond .eq 19, 3) := by decide +kernel
theorem dX12_nights_8 : decode cX12_nights 8 = .ok (.iload_n 2, 1) := by decide +kernel
theorem dX12_nights_9 : decode cX12_nights 9 = .ok (.invokestatic 97, 3) := by decide +kernel
theorem dX12_nights_12 : decode cX12_nights 12 = .ok (.ifCond .eq 12, 3) := by decide +kernel
theorem dX12_nights_15 : decode cX12_nights 15 = .ok (.iload_n 3, 1) := by decide +kernel
theorem dX12_nights_16 : decode cX12_nights 16 = .ok (.iload 4, 2) := by decide +kernel
theorem dX12_nights_18 : decode cX12_nights 18 = .ok (.invokestatic 117, 3) := by decide +kernel
theorem dX12_nights_21 : decode cX12_nights 21 = .ok (.ifCond .ne 5, 3) := by decide +kernel
theorem dX12_nights_24 : decode cX12_nights 24 = .ok (.iconst (-1), 1) := by decide +kernel
theorem dX12_nights_25 : decode cX12_nights 25 = .ok (.ireturn, 1) := by decide +kernel
theorem dX12_nights_26 : decode cX12_nights 26 = .ok (.aload_n 0, 1) := by decide +kernel
theorem dX12_nights_27 : decode cX12_nights 27 = .ok (.iload_n 1, 1) := by decide +kernel
theorem dX12_nights_28 : decode cX12_nights 28 = .ok (.invokevirtual 135, 3) := by decide +kernel
theorem dX12_nights_31 : decode cX12_nights 31 = .ok (.iload 5, 2) := by decide +kernel
theorem dX12_nights_33 : decode cX12_nights 33 = .ok (.ifCond .eq 14, 3) := by decide +kernel
theorem dX12_nights_36 : decode cX12_nights 36 = .ok (.aload_n 0, 1) := by decide +kernel
theorem dX12_nights_37 : decode cX12_nights 37 = .ok (.iload_n 2, 1) := by decide +kernel
theorem dX12_nights_38 : decode cX12_nights 38 = .ok (.iload_n 3, 1) := by decide +kernel
theorem dX12_nights_39 : decode cX12_nights 39 = .ok (.iload 4, 2) := by decide +kernel
theorem dX12_nights_41 : decode cX12_nights 41 = .ok (.invokevirtual 138, 3) := by decide +kernel
theorem dX12_nights_44 : decode cX12_nights 44 = .ok (.goto 11, 3) := by decide +kernel
theorem dX12_nights_47 : decode cX12_nights 47 = .ok (.aload_n 0, 1) := by decide +kernel
theorem dX12_nights_48 : decode cX12_nights 48 = .ok (.iload_n 2, 1) := by decide +kernel
theorem dX12_nights_49 : decode cX12_nights 49 = .ok (.iload_n 3, 1) := by decide +kernel
theorem dX12_nights_50 : decode cX12_nights 50 = .ok (.iload 4, 2) := by decide +kernel
theorem dX12_nights_52 : decode cX12_nights 52 = .ok (.invokevirtual 142, 3) := by decide +kernel
theorem dX12_nights_55 : decode cX12_nights 55 = .ok (.ireturn, 1) := by decide +kernel
set_option maxRecDepth 20000 in
theorem ggX12_sure_X12_isPerson : GoodIn wsX12_sure wsX12_isPerson := goodIn_r _ [5, 6, 7, 8, 4, 9, 31, 32, 33, 34, 35, 36, 37, 38, 39, 40, 41, 42, 43, 44, 45, 46, 47, 48, 49, 50, 51, 52, 53, 54, 55, 56, 57, 58] (by decide +kernel) (by decide +kernel)
set_option maxRecDepth 20000 in
theorem gX12_sure_X12_isPerson : GoodIn wsX12_sure (wsV RX12 114 RX12 yX12_isPerson wsX12_isPerson) := goodIn_app (goodIn_of _ (by decide +kernel)) ggX12_sure_X12_isPerson
set_option maxRecDepth 20000 in
theorem ggX12_sure_X12_isSpan : GoodIn wsX12_sure wsX12_isSpan := goodIn_r _ [12, 13, 14, 4, 15, 7, 8, 9] (by decide +kernel) (by decide +kernel)
set_option maxRecDepth 20000 in
theorem gX12_sure_X12_isSpan : GoodIn wsX12_sure (va_wsS RX12 117 yX12_isSpan wsX12_isSpan) := goodIn_app (goodIn_of _ (by decide +kernel)) ggX12_sure_X12_isSpan
set_option maxRecDepth 20000 in
theorem ggX12_sure_X12_canOf : GoodIn wsX12_sure wsX12_canOf := goodIn_r _ [19, 20, 21, 22, 23, 24, 25, 4, 26, 27, 28, 29, 30, 31, 32, 33, 34, 35, 36, 37, 38, 39, 40, 41, 42, 43, 44, 45, 46, 47, 48, 49, 50, 51, 52, 53, 54, 55, 56, 57, 58] (by decide +kernel) (by decide +kernel)
set_option maxRecDepth 20000 in
theorem gX12_sure_X12_canOf : GoodIn wsX12_sure (wsV RX12 104 RX12 yX12_canOf wsX12_canOf) := goodIn_app (goodIn_of _ (by decide +kernel)) ggX12_sure_X12_canOf
theorem dX12_sure_0 : decode cX12_sure 0 = .ok (.aload_n 0, 1) := by decide +kernel
theorem dX12_sure_1 : decode cX12_sure 1 = .ok (.iload_n 1, 1) := by decide +kernel
theorem dX12_sure_2 : decode cX12_sure 2 = .ok (.invokevirtual 114, 3) := by decide +kernel
theorem dX12_sure_5 : decode cX12_sure 5 = .ok (.ifCond .eq 11, 3) := by decide +kernel
theorem dX12_sure_8 : decode cX12_sure 8 = .ok (.iload_n 2, 1) := by decide +kernel
theorem dX12_sure_9 : decode cX12_sure 9 = .ok (.iload_n 3, 1) := by decide +kernel
theorem dX12_sure_10 : decode cX12_sure 10 = .ok (.invokestatic 117, 3) := by decide +kernel
theorem dX12_sure_13 : decode cX12_sure 13 = .ok (.ifCond .ne 5, 3) := by decide +kernel
theorem dX12_sure_16 : decode cX12_sure 16 = .ok (.iconst (-1), 1) := by decide +kernel
theorem dX12_sure_17 : decode cX12_sure 17 = .ok (.ireturn, 1) := by decide +kernel
theorem dX12_sure_18 : decode cX12_sure 18 = .ok (.iconst 0, 1) := by decide +kernel
theorem dX12_sure_19 : decode cX12_sure 19 = .ok (.istore 4, 2) := by decide +kernel
theorem dX12_sure_21 : decode cX12_sure 21 = .ok (.iload_n 2, 1) := by decide +kernel
theorem dX12_sure_22 : decode cX12_sure 22 = .ok (.istore 5, 2) := by decide +kernel
theorem dX12_sure_24 : decode cX12_sure 24 = .ok (.iload 5, 2) := by decide +kernel
theorem dX12_sure_26 : decode cX12_sure 26 = .ok (.iload_n 3, 1) := by decide +kernel
theorem dX12_sure_27 : decode cX12_sure 27 = .ok (.if_icmp .gt 38, 3) := by decide +kernel
theorem dX12_sure_30 : decode cX12_sure 30 = .ok (.aload_n 0, 1) := by decide +kernel
theorem dX12_sure_31 : decode cX12_sure 31 = .ok (.iload_n 1, 1) := by decide +kernel
theorem dX12_sure_32 : decode cX12_sure 32 = .ok (.iload 5, 2) := by decide +kernel
theorem dX12_sure_34 : decode cX12_sure 34 = .ok (.invokevirtual 104, 3) := by decide +kernel
theorem dX12_sure_37 : decode cX12_sure 37 = .ok (.istore 6, 2) := by decide +kernel
theorem dX12_sure_39 : decode cX12_sure 39 = .ok (.iload 4, 2) := by decide +kernel
theorem dX12_sure_41 : decode cX12_sure 41 = .ok (.iload 6, 2) := by decide +kernel
theorem dX12_sure_43 : decode cX12_sure 43 = .ok (.iload 6, 2) := by decide +kernel
theorem dX12_sure_45 : decode cX12_sure 45 = .ok (.iconst 1, 1) := by decide +kernel
theorem dX12_sure_46 : decode cX12_sure 46 = .ok (.isub, 1) := by decide +kernel
theorem dX12_sure_47 : decode cX12_sure 47 = .ok (.iand, 1) := by decide +kernel
theorem dX12_sure_48 : decode cX12_sure 48 = .ok (.ifCond .ne 7, 3) := by decide +kernel
theorem dX12_sure_51 : decode cX12_sure 51 = .ok (.iconst 1, 1) := by decide +kernel
theorem dX12_sure_52 : decode cX12_sure 52 = .ok (.goto 4, 3) := by decide +kernel
theorem dX12_sure_55 : decode cX12_sure 55 = .ok (.iconst 0, 1) := by decide +kernel
theorem dX12_sure_56 : decode cX12_sure 56 = .ok (.iadd, 1) := by decide +kernel
theorem dX12_sure_57 : decode cX12_sure 57 = .ok (.istore 4, 2) := by decide +kernel
theorem dX12_sure_59 : decode cX12_sure 59 = .ok (.iinc 5 1, 3) := by decide +kernel
theorem dX12_sure_62 : decode cX12_sure 62 = .ok (.goto (-38), 3) := by decide +kernel
theorem dX12_sure_65 : decode cX12_sure 65 = .ok (.iload 4, 2) := by decide +kernel
theorem dX12_sure_67 : decode cX12_sure 67 = .ok (.ireturn, 1) := by decide +kernel
set_option maxRecDepth 20000 in
theorem ggX12_join_X12_isPerson : GoodIn wsX12_join wsX12_isPerson := goodIn_r _ [9, 10, 11, 12, 8, 13, 31, 32, 33, 34, 35, 36, 37, 38, 39, 40, 41, 42, 43, 44, 45, 46, 47, 48, 49, 50, 51, 52, 53, 54, 55, 56, 57, 58] (by decide +kernel) (by decide +kernel)
set_option maxRecDepth 20000 in
theorem gX12_join_X12_isPerson : GoodIn wsX12_join (wsV RX12 114 RX12 yX12_isPerson wsX12_isPerson) := goodIn_app (goodIn_of _ (by decide +kernel)) ggX12_join_X12_isPerson
set_option maxRecDepth 20000 in
theorem ggX12_join_X12_isWhole : GoodIn wsX12_join wsX12_isWhole := goodIn_r _ [17, 18, 19, 20, 8, 21, 2, 22, 23, 24, 25, 26, 27, 4, 28, 29, 30, 31, 32, 33, 34, 35, 36, 37, 38, 39, 40, 41, 42, 43, 44, 45, 46, 47, 48, 49, 50, 51, 52, 53, 54, 55, 56, 57, 58] (by decide +kernel) (by decide +kernel)
set_option maxRecDepth 20000 in
theorem gX12_join_X12_isWhole : GoodIn wsX12_join (wsV RX12 108 RX12 yX12_isWhole wsX12_isWhole) := goodIn_app (goodIn_of _ (by decide +kernel)) ggX12_join_X12_isWhole
theorem dX12_join_0 : decode cX12_join 0 = .ok (.aload_n 0, 1) := by decide +kernel
theorem dX12_join_1 : decode cX12_join 1 = .ok (.iload_n 1, 1) := by decide +kernel
theorem dX12_join_2 : decode cX12_join 2 = .ok (.invokevirtual 114, 3) := by decide +kernel
theorem dX12_join_5 : decode cX12_join 5 = .ok (.ifCond .eq 16, 3) := by decide +kernel
theorem dX12_join_8 : decode cX12_join 8 = .ok (.aload_n 0, 1) := by decide +kernel
theorem dX12_join_9 : decode cX12_join 9 = .ok (.iload_n 2, 1) := by decide +kernel
theorem dX12_join_10 : decode cX12_join 10 = .ok (.invokevirtual 114, 3) := by decide +kernel
theorem dX12_join_13 : decode cX12_join 13 = .ok (.ifCond .eq 8, 3) := by decide +kernel
theorem dX12_join_16 : decode cX12_join 16 = .ok (.iload_n 1, 1) := by decide +kernel
theorem dX12_join_17 : decode cX12_join 17 = .ok (.iload_n 2, 1) := by decide +kernel
theorem dX12_join_18 : decode cX12_join 18 = .ok (.if_icmp .ne 5, 3) := by decide +kernel
theorem dX12_join_21 : decode cX12_join 21 = .ok (.iconst (-1), 1) := by decide +kernel
theorem dX12_join_22 : decode cX12_join 22 = .ok (.ireturn, 1) := by decide +kernel
theorem dX12_join_23 : decode cX12_join 23 = .ok (.aload_n 0, 1) := by decide +kernel
theorem dX12_join_24 : decode cX12_join 24 = .ok (.getfield 16, 3) := by decide +kernel
theorem dX12_join_27 : decode cX12_join 27 = .ok (.iload_n 1, 1) := by decide +kernel
theorem dX12_join_28 : decode cX12_join 28 = .ok (.baload, 1) := by decide +kernel
theorem dX12_join_29 : decode cX12_join 29 = .ok (.ifCond .ne 12, 3) := by decide +kernel
theorem dX12_join_32 : decode cX12_join 32 = .ok (.aload_n 0, 1) := by decide +kernel
theorem dX12_join_33 : decode cX12_join 33 = .ok (.getfield 16, 3) := by decide +kernel
theorem dX12_join_36 : decode cX12_join 36 = .ok (.iload_n 2, 1) := by decide +kernel
theorem dX12_join_37 : decode cX12_join 37 = .ok (.baload, 1) := by decide +kernel
theorem dX12_join_38 : decode cX12_join 38 = .ok (.ifCond .eq 6, 3) := by decide +kernel
theorem dX12_join_41 : decode cX12_join 41 = .ok (.bipush (-3), 2) := by decide +kernel
theorem dX12_join_43 : decode cX12_join 43 = .ok (.ireturn, 1) := by decide +kernel
theorem dX12_join_44 : decode cX12_join 44 = .ok (.iconst 0, 1) := by decide +kernel
theorem dX12_join_45 : decode cX12_join 45 = .ok (.istore_n 3, 1) := by decide +kernel
theorem dX12_join_46 : decode cX12_join 46 = .ok (.iconst 0, 1) := by decide +kernel
theorem dX12_join_47 : decode cX12_join 47 = .ok (.istore 4, 2) := by decide +kernel
theorem dX12_join_49 : decode cX12_join 49 = .ok (.iload 4, 2) := by decide +kernel
theorem dX12_join_51 : decode cX12_join 51 = .ok (.aload_n 0, 1) := by decide +kernel
theorem dX12_join_52 : decode cX12_join 52 = .ok (.getfield 94, 3) := by decide +kernel
theorem dX12_join_55 : decode cX12_join 55 = .ok (.if_icmp .ge 50, 3) := by decide +kernel
theorem dX12_join_58 : decode cX12_join 58 = .ok (.aload_n 0, 1) := by decide +kernel
theorem dX12_join_59 : decode cX12_join 59 = .ok (.getfield 47, 3) := by decide +kernel
theorem dX12_join_62 : decode cX12_join 62 = .ok (.iload 4, 2) := by decide +kernel
theorem dX12_join_64 : decode cX12_join 64 = .ok (.aload_n 0, 1) := by decide +kernel
theorem dX12_join_65 : decode cX12_join 65 = .ok (.getfield 23, 3) := by decide +kernel
theorem dX12_join_68 : decode cX12_join 68 = .ok (.iload 4, 2) := by decide +kernel
theorem dX12_join_70 : decode cX12_join 70 = .ok (.iaload, 1) := by decide +kernel
theorem dX12_join_71 : decode cX12_join 71 = .ok (.iload_n 2, 1) := by decide +kernel
theorem dX12_join_72 : decode cX12_join 72 = .ok (.if_icmp .ne 7, 3) := by decide +kernel
theorem dX12_join_75 : decode cX12_join 75 = .ok (.iconst 1, 1) := by decide +kernel
theorem dX12_join_76 : decode cX12_join 76 = .ok (.goto 4, 3) := by decide +kernel
theorem dX12_join_79 : decode cX12_join 79 = .ok (.iconst 0, 1) := by decide +kernel
theorem dX12_join_80 : decode cX12_join 80 = .ok (.bastore, 1) := by decide +kernel
theorem dX12_join_81 : decode cX12_join 81 = .ok (.iload_n 3, 1) := by decide +kernel
theorem dX12_join_82 : decode cX12_join 82 = .ok (.aload_n 0, 1) := by decide +kernel
theorem dX12_join_83 : decode cX12_join 83 = .ok (.getfield 47, 3) := by decide +kernel
theorem dX12_join_86 : decode cX12_join 86 = .ok (.iload 4, 2) := by decide +kernel
theorem dX12_join_88 : decode cX12_join 88 = .ok (.baload, 1) := by decide +kernel
theorem dX12_join_89 : decode cX12_join 89 = .ok (.ifCond .eq 7, 3) := by decide +kernel
theorem dX12_join_92 : decode cX12_join 92 = .ok (.iconst 1, 1) := by decide +kernel
theorem dX12_join_93 : decode cX12_join 93 = .ok (.goto 4, 3) := by decide +kernel
theorem dX12_join_96 : decode cX12_join 96 = .ok (.iconst 0, 1) := by decide +kernel
theorem dX12_join_97 : decode cX12_join 97 = .ok (.iadd, 1) := by decide +kernel
theorem dX12_join_98 : decode cX12_join 98 = .ok (.istore_n 3, 1) := by decide +kernel
theorem dX12_join_99 : decode cX12_join 99 = .ok (.iinc 4 1, 3) := by decide +kernel
theorem dX12_join_102 : decode cX12_join 102 = .ok (.goto (-53), 3) := by decide +kernel
theorem dX12_join_105 : decode cX12_join 105 = .ok (.iconst 0, 1) := by decide +kernel
theorem dX12_join_106 : decode cX12_join 106 = .ok (.istore 4, 2) := by decide +kernel
theorem dX12_join_108 : decode cX12_join 108 = .ok (.iload 4, 2) := by decide +kernel
theorem dX12_join_110 : decode cX12_join 110 = .ok (.aload_n 0, 1) := by decide +kernel
theorem dX12_join_111 : decode cX12_join 111 = .ok (.getfield 94, 3) := by decide +kernel
theorem dX12_join_114 : decode cX12_join 114 = .ok (.if_icmp .ge 37, 3) := by decide +kernel
theorem dX12_join_117 : decode cX12_join 117 = .ok (.aload_n 0, 1) := by decide +kernel
theorem dX12_join_118 : decode cX12_join 118 = .ok (.getfield 23, 3) := by decide +kernel
theorem dX12_join_121 : decode cX12_join 121 = .ok (.iload 4, 2) := by decide +kernel
theorem dX12_join_123 : decode cX12_join 123 = .ok (.aload_n 0, 1) := by decide +kernel
theorem dX12_join_124 : decode cX12_join 124 = .ok (.getfield 47, 3) := by decide +kernel
theorem dX12_join_127 : decode cX12_join 127 = .ok (.iload 4, 2) := by decide +kernel
theorem dX12_join_129 : decode cX12_join 129 = .ok (.baload, 1) := by decide +kernel
theorem dX12_join_130 : decode cX12_join 130 = .ok (.ifCond .eq 7, 3) := by decide +kernel
theorem dX12_join_133 : decode cX12_join 133 = .ok (.iload_n 1, 1) := by decide +kernel
theorem dX12_join_134 : decode cX12_join 134 = .ok (.goto 10, 3) := by decide +kernel
theorem dX12_join_137 : decode cX12_join 137 = .ok (.aload_n 0, 1) := by decide +kernel
theorem dX12_join_138 : decode cX12_join 138 = .ok (.getfield 23, 3) := by decide +kernel
theorem dX12_join_141 : decode cX12_join 141 = .ok (.iload 4, 2) := by decide +kernel
theorem dX12_join_143 : decode cX12_join 143 = .ok (.iaload, 1) := by decide +kernel
theorem dX12_join_144 : decode cX12_join 144 = .ok (.iastore, 1) := by decide +kernel
theorem dX12_join_145 : decode cX12_join 145 = .ok (.iinc 4 1, 3) := by decide +kernel
theorem dX12_join_148 : decode cX12_join 148 = .ok (.goto (-40), 3) := by decide +kernel
theorem dX12_join_151 : decode cX12_join 151 = .ok (.aload_n 0, 1) := by decide +kernel
theorem dX12_join_152 : decode cX12_join 152 = .ok (.iload_n 1, 1) := by decide +kernel
theorem dX12_join_153 : decode cX12_join 153 = .ok (.invokevirtual 108, 3) := by decide +kernel
theorem dX12_join_156 : decode cX12_join 156 = .ok (.ifCond .ne 52, 3) := by decide +kernel
theorem dX12_join_159 : decode cX12_join 159 = .ok (.iconst 0, 1) := by decide +kernel
theorem dX12_join_160 : decode cX12_join 160 = .ok (.istore 4, 2) := by decide +kernel
theorem dX12_join_162 : decode cX12_join 162 = .ok (.iload 4, 2) := by decide +kernel
theorem dX12_join_164 : decode cX12_join 164 = .ok (.aload_n 0, 1) := by decide +kernel
theorem dX12_join_165 : decode cX12_join 165 = .ok (.getfield 94, 3) := by decide +kernel
theorem dX12_join_168 : decode cX12_join 168 = .ok (.if_icmp .ge 37, 3) := by decide +kernel
theorem dX12_join_171 : decode cX12_join 171 = .ok (.aload_n 0, 1) := by decide +kernel
theorem dX12_join_172 : decode cX12_join 172 = .ok (.getfield 23, 3) := by decide +kernel
theorem dX12_join_175 : decode cX12_join 175 = .ok (.iload 4, 2) := by decide +kernel
theorem dX12_join_177 : decode cX12_join 177 = .ok (.aload_n 0, 1) := by decide +kernel
theorem dX12_join_178 : decode cX12_join 178 = .ok (.getfield 47, 3) := by decide +kernel
theorem dX12_join_181 : decode cX12_join 181 = .ok (.iload 4, 2) := by decide +kernel
theorem dX12_join_183 : decode cX12_join 183 = .ok (.baload, 1) := by decide +kernel
theorem dX12_join_184 : decode cX12_join 184 = .ok (.ifCond .eq 7, 3) := by decide +kernel
theorem dX12_join_187 : decode cX12_join 187 = .ok (.iload_n 2, 1) := by decide +kernel
theorem dX12_join_188 : decode cX12_join 188 = .ok (.goto 10, 3) := by decide +kernel
theorem dX12_join_191 : decode cX12_join 191 = .ok (.aload_n 0, 1) := by decide +kernel
theorem dX12_join_192 : decode cX12_join 192 = .ok (.getfield 23, 3) := by decide +kernel
theorem dX12_join_195 : decode cX12_join 195 = .ok (.iload 4, 2) := by decide +kernel
theorem dX12_join_197 : decode cX12_join 197 = .ok (.iaload, 1) := by decide +kernel
theorem dX12_join_198 : decode cX12_join 198 = .ok (.iastore, 1) := by decide +kernel
theorem dX12_join_199 : decode cX12_join 199 = .ok (.iinc 4 1, 3) := by decide +kernel
theorem dX12_join_202 : decode cX12_join 202 = .ok (.goto (-40), 3) := by decide +kernel
theorem dX12_join_205 : decode cX12_join 205 = .ok (.bipush (-4), 2) := by decide +kernel
theorem dX12_join_207 : decode cX12_join 207 = .ok (.ireturn, 1) := by decide +kernel
theorem dX12_join_208 : decode cX12_join 208 = .ok (.aload_n 0, 1) := by decide +kernel
theorem dX12_join_209 : decode cX12_join 209 = .ok (.getfield 16, 3) := by decide +kernel
theorem dX12_join_212 : decode cX12_join 212 = .ok (.iload_n 2, 1) := by decide +kernel
theorem dX12_join_213 : decode cX12_join 213 = .ok (.iconst 1, 1) := by decide +kernel
theorem dX12_join_214 : decode cX12_join 214 = .ok (.bastore, 1) := by decide +kernel
theorem dX12_join_215 : decode cX12_join 215 = .ok (.iload_n 3, 1) := by decide +kernel
theorem dX12_join_216 : decode cX12_join 216 = .ok (.ireturn, 1) := by decide +kernel
set_option maxRecDepth 20000 in
theorem ggX12_isLaw_X12_in : GoodIn wsX12_isLaw wsX12_in := goodIn_r _ [5] (by decide +kernel) (by decide +kernel)
set_option maxRecDepth 20000 in
theorem gX12_isLaw_X12_in : GoodIn wsX12_isLaw (va_wsS RX12 87 yX12_in wsX12_in) := goodIn_app (goodIn_of _ (by decide +kernel)) ggX12_isLaw_X12_in
theorem dX12_isLaw_0 : decode cX12_isLaw 0 = .ok (.iload_n 1, 1) := by decide +kernel
theorem dX12_isLaw_1 : decode cX12_isLaw 1 = .ok (.iconst 0, 1) := by decide +kernel
theorem dX12_isLaw_2 : decode cX12_isLaw 2 = .ok (.aload_n 0, 1) := by decide +kernel
theorem dX12_isLaw_3 : decode cX12_isLaw 3 = .ok (.getfield 145, 3) := by decide +kernel
theorem dX12_isLaw_6 : decode cX12_isLaw 6 = .ok (.iconst 1, 1) := by decide +kernel
theorem dX12_isLaw_7 : decode cX12_isLaw 7 = .ok (.isub, 1) := by decide +kernel
theorem dX12_isLaw_8 : decode cX12_isLaw 8 = .ok (.invokestatic 87, 3) := by decide +kernel
theorem dX12_isLaw_11 : decode cX12_isLaw 11 = .ok (.ireturn, 1) := by decide +kernel
set_option maxRecDepth 20000 in
theorem ggX12_law_X12_isLand : GoodIn wsX12_law wsX12_isLand := goodIn_r _ [9, 10, 11, 8, 12] (by decide +kernel) (by decide +kernel)
set_option maxRecDepth 20000 in
theorem gX12_law_X12_isLand : GoodIn wsX12_law (va_wsS RX12 97 yX12_isLand wsX12_isLand) := goodIn_app (goodIn_of _ (by decide +kernel)) ggX12_law_X12_isLand
set_option maxRecDepth 20000 in
theorem ggX12_law_X12_in : GoodIn wsX12_law wsX12_in := goodIn_r _ [12] (by decide +kernel) (by decide +kernel)
set_option maxRecDepth 20000 in
theorem gX12_law_X12_in : GoodIn wsX12_law (va_wsS RX12 87 yX12_in wsX12_in) := goodIn_app (goodIn_of _ (by decide +kernel)) ggX12_law_X12_in
theorem dX12_law_0 : decode cX12_law 0 = .ok (.iload_n 1, 1) := by decide +kernel
theorem dX12_law_1 : decode cX12_law 1 = .ok (.ifCond .lt 58, 3) := by decide +kernel
theorem dX12_law_4 : decode cX12_law 4 = .ok (.iload_n 1, 1) := by decide +kernel
theorem dX12_law_5 : decode cX12_law 5 = .ok (.bipush 10, 2) := by decide +kernel
theorem dX12_law_7 : decode cX12_law 7 = .ok (.idiv, 1) := by decide +kernel
theorem dX12_law_8 : decode cX12_law 8 = .ok (.iconst 3, 1) := by decide +kernel
theorem dX12_law_9 : decode cX12_law 9 = .ok (.if_icmp .gt 50, 3) := by decide +kernel
theorem dX12_law_12 : decode cX12_law 12 = .ok (.iload_n 1, 1) := by decide +kernel
theorem dX12_law_13 : decode cX12_law 13 = .ok (.bipush 10, 2) := by decide +kernel
theorem dX12_law_15 : decode cX12_law 15 = .ok (.irem, 1) := by decide +kernel
theorem dX12_law_16 : decode cX12_law 16 = .ok (.invokestatic 97, 3) := by decide +kernel
theorem dX12_law_19 : decode cX12_law 19 = .ok (.ifCond .eq 40, 3) := by decide +kernel
theorem dX12_law_22 : decode cX12_law 22 = .ok (.iload_n 2, 1) := by decide +kernel
theorem dX12_law_23 : decode cX12_law 23 = .ok (.iconst 0, 1) := by decide +kernel
theorem dX12_law_24 : decode cX12_law 24 = .ok (.sipush 200, 3) := by decide +kernel
theorem dX12_law_27 : decode cX12_law 27 = .ok (.invokestatic 87, 3) := by decide +kernel
theorem dX12_law_30 : decode cX12_law 30 = .ok (.ifCond .eq 29, 3) := by decide +kernel
theorem dX12_law_33 : decode cX12_law 33 = .ok (.iload_n 1, 1) := by decide +kernel
theorem dX12_law_34 : decode cX12_law 34 = .ok (.bipush 10, 2) := by decide +kernel
theorem dX12_law_36 : decode cX12_law 36 = .ok (.idiv, 1) := by decide +kernel
theorem dX12_law_37 : decode cX12_law 37 = .ok (.ifCond .eq 11, 3) := by decide +kernel
theorem dX12_law_40 : decode cX12_law 40 = .ok (.iload_n 1, 1) := by decide +kernel
theorem dX12_law_41 : decode cX12_law 41 = .ok (.bipush 10, 2) := by decide +kernel
theorem dX12_law_43 : decode cX12_law 43 = .ok (.idiv, 1) := by decide +kernel
theorem dX12_law_44 : decode cX12_law 44 = .ok (.iconst 2, 1) := by decide +kernel
theorem dX12_law_45 : decode cX12_law 45 = .ok (.if_icmp .ne 16, 3) := by decide +kernel
theorem dX12_law_48 : decode cX12_law 48 = .ok (.iload_n 3, 1) := by decide +kernel
theorem dX12_law_49 : decode cX12_law 49 = .ok (.iconst 1, 1) := by decide +kernel
theorem dX12_law_50 : decode cX12_law 50 = .ok (.sipush 200, 3) := by decide +kernel
theorem dX12_law_53 : decode cX12_law 53 = .ok (.invokestatic 87, 3) := by decide +kernel
theorem dX12_law_56 : decode cX12_law 56 = .ok (.ifCond .ne 5, 3) := by decide +kernel
theorem dX12_law_59 : decode cX12_law 59 = .ok (.iconst (-1), 1) := by decide +kernel
theorem dX12_law_60 : decode cX12_law 60 = .ok (.ireturn, 1) := by decide +kernel
theorem dX12_law_61 : decode cX12_law 61 = .ok (.aload_n 0, 1) := by decide +kernel
theorem dX12_law_62 : decode cX12_law 62 = .ok (.getfield 145, 3) := by decide +kernel
theorem dX12_law_65 : decode cX12_law 65 = .ok (.bipush 12, 2) := by decide +kernel
theorem dX12_law_67 : decode cX12_law 67 = .ok (.if_icmp .ne 6, 3) := by decide +kernel
theorem dX12_law_70 : decode cX12_law 70 = .ok (.bipush (-2), 2) := by decide +kernel
theorem dX12_law_72 : decode cX12_law 72 = .ok (.ireturn, 1) := by decide +kernel
theorem dX12_law_73 : decode cX12_law 73 = .ok (.aload_n 0, 1) := by decide +kernel
theorem dX12_law_74 : decode cX12_law 74 = .ok (.getfield 50, 3) := by decide +kernel
theorem dX12_law_77 : decode cX12_law 77 = .ok (.aload_n 0, 1) := by decide +kernel
theorem dX12_law_78 : decode cX12_law 78 = .ok (.getfield 145, 3) := by decide +kernel
theorem dX12_law_81 : decode cX12_law 81 = .ok (.iload_n 1, 1) := by decide +kernel
theorem dX12_law_82 : decode cX12_law 82 = .ok (.bipush 10, 2) := by decide +kernel
theorem dX12_law_84 : decode cX12_law 84 = .ok (.idiv, 1) := by decide +kernel
theorem dX12_law_85 : decode cX12_law 85 = .ok (.iastore, 1) := by decide +kernel
theorem dX12_law_86 : decode cX12_law 86 = .ok (.aload_n 0, 1) := by decide +kernel
theorem dX12_law_87 : decode cX12_law 87 = .ok (.getfield 53, 3) := by decide +kernel
theorem dX12_law_90 : decode cX12_law 90 = .ok (.aload_n 0, 1) := by decide +kernel
theorem dX12_law_91 : decode cX12_law 91 = .ok (.getfield 145, 3) := by decide +kernel
theorem dX12_law_94 : decode cX12_law 94 = .ok (.iload_n 1, 1) := by decide +kernel
theorem dX12_law_95 : decode cX12_law 95 = .ok (.bipush 10, 2) := by decide +kernel
theorem dX12_law_97 : decode cX12_law 97 = .ok (.irem, 1) := by decide +kernel
theorem dX12_law_98 : decode cX12_law 98 = .ok (.iastore, 1) := by decide +kernel
theorem dX12_law_99 : decode cX12_law 99 = .ok (.aload_n 0, 1) := by decide +kernel
theorem dX12_law_100 : decode cX12_law 100 = .ok (.getfield 56, 3) := by decide +kernel
theorem dX12_law_103 : decode cX12_law 103 = .ok (.aload_n 0, 1) := by decide +kernel
theorem dX12_law_104 : decode cX12_law 104 = .ok (.getfield 145, 3) := by decide +kernel
theorem dX12_law_107 : decode cX12_law 107 = .ok (.iload_n 2, 1) := by decide +kernel
theorem dX12_law_108 : decode cX12_law 108 = .ok (.iastore, 1) := by decide +kernel
theorem dX12_law_109 : decode cX12_law 109 = .ok (.aload_n 0, 1) := by decide +kernel
theorem dX12_law_110 : decode cX12_law 110 = .ok (.getfield 59, 3) := by decide +kernel
theorem dX12_law_113 : decode cX12_law 113 = .ok (.aload_n 0, 1) := by decide +kernel
theorem dX12_law_114 : decode cX12_law 114 = .ok (.getfield 145, 3) := by decide +kernel
theorem dX12_law_117 : decode cX12_law 117 = .ok (.iload_n 3, 1) := by decide +kernel
theorem dX12_law_118 : decode cX12_law 118 = .ok (.iastore, 1) := by decide +kernel
theorem dX12_law_119 : decode cX12_law 119 = .ok (.aload_n 0, 1) := by decide +kernel
theorem dX12_law_120 : decode cX12_law 120 = .ok (.dup, 1) := by decide +kernel
theorem dX12_law_121 : decode cX12_law 121 = .ok (.getfield 145, 3) := by decide +kernel
theorem dX12_law_124 : decode cX12_law 124 = .ok (.iconst 1, 1) := by decide +kernel
theorem dX12_law_125 : decode cX12_law 125 = .ok (.iadd, 1) := by decide +kernel
theorem dX12_law_126 : decode cX12_law 126 = .ok (.putfield 145, 3) := by decide +kernel
theorem dX12_law_129 : decode cX12_law 129 = .ok (.aload_n 0, 1) := by decide +kernel
theorem dX12_law_130 : decode cX12_law 130 = .ok (.getfield 145, 3) := by decide +kernel
theorem dX12_law_133 : decode cX12_law 133 = .ok (.iconst 1, 1) := by decide +kernel
theorem dX12_law_134 : decode cX12_law 134 = .ok (.isub, 1) := by decide +kernel
theorem dX12_law_135 : decode cX12_law 135 = .ok (.ireturn, 1) := by decide +kernel
set_option maxRecDepth 20000 in
theorem ggX12_keptOn_X12_leastOf : GoodIn wsX12_keptOn wsX12_leastOf := goodIn_r _ [9, 10, 16, 17, 18, 19, 20, 21, 22, 23, 24, 25, 26, 27, 28, 29, 30, 31, 32, 33, 34, 35, 36, 37, 38, 39, 40, 41, 42, 43] (by decide +kernel) (by decide +kernel)
set_option maxRecDepth 20000 in
theorem gX12_keptOn_X12_leastOf : GoodIn wsX12_keptOn (wsV RX12 142 RX12 yX12_leastOf wsX12_leastOf) := goodIn_app (goodIn_of _ (by decide +kernel)) ggX12_keptOn_X12_leastOf
set_option maxRecDepth 20000 in
theorem ggX12_keptOn_X12_mostOf : GoodIn wsX12_keptOn wsX12_mostOf := goodIn_r _ [14, 15, 16, 17, 18, 19, 20, 21, 22, 23, 24, 25, 26, 27, 28, 29, 30, 31, 32, 33, 34, 35, 36, 37, 38, 39, 40, 41, 42, 43] (by decide +kernel) (by decide +kernel)
set_option maxRecDepth 20000 in
theorem gX12_keptOn_X12_mostOf : GoodIn wsX12_keptOn (wsV RX12 138 RX12 yX12_mostOf wsX12_mostOf) := goodIn_app (goodIn_of _ (by decide +kernel)) ggX12_keptOn_X12_mostOf
theorem dX12_keptOn_0 : decode cX12_keptOn 0 = .ok (.aload_n 0, 1) := by decide +kernel
theorem dX12_keptOn_1 : decode cX12_keptOn 1 = .ok (.getfield 56, 3) := by decide +kernel
theorem dX12_keptOn_4 : decode cX12_keptOn 4 = .ok (.iload_n 1, 1) := by decide +kernel
theorem dX12_keptOn_5 : decode cX12_keptOn 5 = .ok (.iaload, 1) := by decide +kernel
theorem dX12_keptOn_6 : decode cX12_keptOn 6 = .ok (.istore_n 3, 1) := by decide +kernel
theorem dX12_keptOn_7 : decode cX12_keptOn 7 = .ok (.aload_n 0, 1) := by decide +kernel
theorem dX12_keptOn_8 : decode cX12_keptOn 8 = .ok (.getfield 53, 3) := by decide +kernel
theorem dX12_keptOn_11 : decode cX12_keptOn 11 = .ok (.iload_n 1, 1) := by decide +kernel
theorem dX12_keptOn_12 : decode cX12_keptOn 12 = .ok (.iaload, 1) := by decide +kernel
theorem dX12_keptOn_13 : decode cX12_keptOn 13 = .ok (.istore 4, 2) := by decide +kernel
theorem dX12_keptOn_15 : decode cX12_keptOn 15 = .ok (.aload_n 0, 1) := by decide +kernel
theorem dX12_keptOn_16 : decode cX12_keptOn 16 = .ok (.getfield 50, 3) := by decide +kernel
theorem dX12_keptOn_19 : decode cX12_keptOn 19 = .ok (.iload_n 1, 1) := by decide +kernel
theorem dX12_keptOn_20 : decode cX12_keptOn 20 = .ok (.iaload, 1) := by decide +kernel
theorem dX12_keptOn_21 : decode cX12_keptOn 21 = .ok (.iconst 1, 1) := by decide +kernel
theorem dX12_keptOn_22 : decode cX12_keptOn 22 = .ok (.if_icmp .eq 13, 3) := by decide +kernel
theorem dX12_keptOn_25 : decode cX12_keptOn 25 = .ok (.aload_n 0, 1) := by decide +kernel
theorem dX12_keptOn_26 : decode cX12_keptOn 26 = .ok (.getfield 50, 3) := by decide +kernel
theorem dX12_keptOn_29 : decode cX12_keptOn 29 = .ok (.iload_n 1, 1) := by decide +kernel
theorem dX12_keptOn_30 : decode cX12_keptOn 30 = .ok (.iaload, 1) := by decide +kernel
theorem dX12_keptOn_31 : decode cX12_keptOn 31 = .ok (.iconst 3, 1) := by decide +kernel
theorem dX12_keptOn_32 : decode cX12_keptOn 32 = .ok (.if_icmp .ne 7, 3) := by decide +kernel
theorem dX12_keptOn_35 : decode cX12_keptOn 35 = .ok (.iconst 1, 1) := by decide +kernel
theorem dX12_keptOn_36 : decode cX12_keptOn 36 = .ok (.goto 4, 3) := by decide +kernel
theorem dX12_keptOn_39 : decode cX12_keptOn 39 = .ok (.iconst 0, 1) := by decide +kernel
theorem dX12_keptOn_40 : decode cX12_keptOn 40 = .ok (.istore 5, 2) := by decide +kernel
theorem dX12_keptOn_42 : decode cX12_keptOn 42 = .ok (.iload 5, 2) := by decide +kernel
theorem dX12_keptOn_44 : decode cX12_keptOn 44 = .ok (.ifCond .eq 10, 3) := by decide +kernel
theorem dX12_keptOn_47 : decode cX12_keptOn 47 = .ok (.iload_n 2, 1) := by decide +kernel
theorem dX12_keptOn_48 : decode cX12_keptOn 48 = .ok (.iload_n 3, 1) := by decide +kernel
theorem dX12_keptOn_49 : decode cX12_keptOn 49 = .ok (.if_icmp .ge 5, 3) := by decide +kernel
theorem dX12_keptOn_52 : decode cX12_keptOn 52 = .ok (.iconst 2, 1) := by decide +kernel
theorem dX12_keptOn_53 : decode cX12_keptOn 53 = .ok (.ireturn, 1) := by decide +kernel
theorem dX12_keptOn_54 : decode cX12_keptOn 54 = .ok (.iload 5, 2) := by decide +kernel
theorem dX12_keptOn_56 : decode cX12_keptOn 56 = .ok (.ifCond .eq 9, 3) := by decide +kernel
theorem dX12_keptOn_59 : decode cX12_keptOn 59 = .ok (.iload_n 2, 1) := by decide +kernel
theorem dX12_keptOn_60 : decode cX12_keptOn 60 = .ok (.iload_n 3, 1) := by decide +kernel
theorem dX12_keptOn_61 : decode cX12_keptOn 61 = .ok (.isub, 1) := by decide +kernel
theorem dX12_keptOn_62 : decode cX12_keptOn 62 = .ok (.goto 13, 3) := by decide +kernel
theorem dX12_keptOn_65 : decode cX12_keptOn 65 = .ok (.iload_n 2, 1) := by decide +kernel
theorem dX12_keptOn_66 : decode cX12_keptOn 66 = .ok (.aload_n 0, 1) := by decide +kernel
theorem dX12_keptOn_67 : decode cX12_keptOn 67 = .ok (.getfield 59, 3) := by decide +kernel
theorem dX12_keptOn_70 : decode cX12_keptOn 70 = .ok (.iload_n 1, 1) := by decide +kernel
theorem dX12_keptOn_71 : decode cX12_keptOn 71 = .ok (.iaload, 1) := by decide +kernel
theorem dX12_keptOn_72 : decode cX12_keptOn 72 = .ok (.isub, 1) := by decide +kernel
theorem dX12_keptOn_73 : decode cX12_keptOn 73 = .ok (.iconst 1, 1) := by decide +kernel
theorem dX12_keptOn_74 : decode cX12_keptOn 74 = .ok (.iadd, 1) := by decide +kernel
theorem dX12_keptOn_75 : decode cX12_keptOn 75 = .ok (.istore 6, 2) := by decide +kernel
theorem dX12_keptOn_77 : decode cX12_keptOn 77 = .ok (.iload 6, 2) := by decide +kernel
theorem dX12_keptOn_79 : decode cX12_keptOn 79 = .ok (.ifCond .ge 7, 3) := by decide +kernel
theorem dX12_keptOn_82 : decode cX12_keptOn 82 = .ok (.iconst 0, 1) := by decide +kernel
theorem dX12_keptOn_83 : decode cX12_keptOn 83 = .ok (.goto 5, 3) := by decide +kernel
theorem dX12_keptOn_86 : decode cX12_keptOn 86 = .ok (.iload 6, 2) := by decide +kernel
theorem dX12_keptOn_88 : decode cX12_keptOn 88 = .ok (.istore 6, 2) := by decide +kernel
theorem dX12_keptOn_90 : decode cX12_keptOn 90 = .ok (.aload_n 0, 1) := by decide +kernel
theorem dX12_keptOn_91 : decode cX12_keptOn 91 = .ok (.iload 4, 2) := by decide +kernel
theorem dX12_keptOn_93 : decode cX12_keptOn 93 = .ok (.iload 6, 2) := by decide +kernel
theorem dX12_keptOn_95 : decode cX12_keptOn 95 = .ok (.iload_n 2, 1) := by decide +kernel
theorem dX12_keptOn_96 : decode cX12_keptOn 96 = .ok (.invokevirtual 142, 3) := by decide +kernel
theorem dX12_keptOn_99 : decode cX12_keptOn 99 = .ok (.istore 7, 2) := by decide +kernel
theorem dX12_keptOn_101 : decode cX12_keptOn 101 = .ok (.aload_n 0, 1) := by decide +kernel
theorem dX12_keptOn_102 : decode cX12_keptOn 102 = .ok (.iload 4, 2) := by decide +kernel
theorem dX12_keptOn_104 : decode cX12_keptOn 104 = .ok (.iload 6, 2) := by decide +kernel
theorem dX12_keptOn_106 : decode cX12_keptOn 106 = .ok (.iload_n 2, 1) := by decide +kernel
theorem dX12_keptOn_107 : decode cX12_keptOn 107 = .ok (.invokevirtual 138, 3) := by decide +kernel
theorem dX12_keptOn_110 : decode cX12_keptOn 110 = .ok (.istore 8, 2) := by decide +kernel
theorem dX12_keptOn_112 : decode cX12_keptOn 112 = .ok (.aload_n 0, 1) := by decide +kernel
theorem dX12_keptOn_113 : decode cX12_keptOn 113 = .ok (.getfield 50, 3) := by decide +kernel
theorem dX12_keptOn_116 : decode cX12_keptOn 116 = .ok (.iload_n 1, 1) := by decide +kernel
theorem dX12_keptOn_117 : decode cX12_keptOn 117 = .ok (.iaload, 1) := by decide +kernel
theorem dX12_keptOn_118 : decode cX12_keptOn 118 = .ok (.tableswitch 94 0 2 #[26, 48, 72], 26) := by decide +kernel
theorem dX12_keptOn_144 : decode cX12_keptOn 144 = .ok (.iload 8, 2) := by decide +kernel
theorem dX12_keptOn_146 : decode cX12_keptOn 146 = .ok (.iload_n 3, 1) := by decide +kernel
theorem dX12_keptOn_147 : decode cX12_keptOn 147 = .ok (.if_icmp .gt 7, 3) := by decide +kernel
theorem dX12_keptOn_150 : decode cX12_keptOn 150 = .ok (.iconst 2, 1) := by decide +kernel
theorem dX12_keptOn_151 : decode cX12_keptOn 151 = .ok (.goto 14, 3) := by decide +kernel
theorem dX12_keptOn_154 : decode cX12_keptOn 154 = .ok (.iload 7, 2) := by decide +kernel
theorem dX12_keptOn_156 : decode cX12_keptOn 156 = .ok (.iload_n 3, 1) := by decide +kernel
theorem dX12_keptOn_157 : decode cX12_keptOn 157 = .ok (.if_icmp .le 7, 3) := by decide +kernel
theorem dX12_keptOn_160 : decode cX12_keptOn 160 = .ok (.iconst 0, 1) := by decide +kernel
theorem dX12_keptOn_161 : decode cX12_keptOn 161 = .ok (.goto 4, 3) := by decide +kernel
theorem dX12_keptOn_164 : decode cX12_keptOn 164 = .ok (.iconst 1, 1) := by decide +kernel
theorem dX12_keptOn_165 : decode cX12_keptOn 165 = .ok (.ireturn, 1) := by decide +kernel
theorem dX12_keptOn_166 : decode cX12_keptOn 166 = .ok (.iload 7, 2) := by decide +kernel
theorem dX12_keptOn_168 : decode cX12_keptOn 168 = .ok (.iload_n 3, 1) := by decide +kernel
theorem dX12_keptOn_169 : decode cX12_keptOn 169 = .ok (.iconst 1, 1) := by decide +kernel
theorem dX12_keptOn_170 : decode cX12_keptOn 170 = .ok (.iadd, 1) := by decide +kernel
theorem dX12_keptOn_171 : decode cX12_keptOn 171 = .ok (.if_icmp .ne 7, 3) := by decide +kernel
theorem dX12_keptOn_174 : decode cX12_keptOn 174 = .ok (.iconst 0, 1) := by decide +kernel
theorem dX12_keptOn_175 : decode cX12_keptOn 175 = .ok (.goto 14, 3) := by decide +kernel
theorem dX12_keptOn_178 : decode cX12_keptOn 178 = .ok (.iload 8, 2) := by decide +kernel
theorem dX12_keptOn_180 : decode cX12_keptOn 180 = .ok (.iload_n 3, 1) := by decide +kernel
theorem dX12_keptOn_181 : decode cX12_keptOn 181 = .ok (.if_icmp .gt 7, 3) := by decide +kernel
theorem dX12_keptOn_184 : decode cX12_keptOn 184 = .ok (.iconst 2, 1) := by decide +kernel
theorem dX12_keptOn_185 : decode cX12_keptOn 185 = .ok (.goto 4, 3) := by decide +kernel
theorem dX12_keptOn_188 : decode cX12_keptOn 188 = .ok (.iconst 1, 1) := by decide +kernel
theorem dX12_keptOn_189 : decode cX12_keptOn 189 = .ok (.ireturn, 1) := by decide +kernel
theorem dX12_keptOn_190 : decode cX12_keptOn 190 = .ok (.iload 7, 2) := by decide +kernel
theorem dX12_keptOn_192 : decode cX12_keptOn 192 = .ok (.iload_n 3, 1) := by decide +kernel
theorem dX12_keptOn_193 : decode cX12_keptOn 193 = .ok (.if_icmp .lt 7, 3) := by decide +kernel
theorem dX12_keptOn_196 : decode cX12_keptOn 196 = .ok (.iconst 2, 1) := by decide +kernel
theorem dX12_keptOn_197 : decode cX12_keptOn 197 = .ok (.goto 14, 3) := by decide +kernel
theorem dX12_keptOn_200 : decode cX12_keptOn 200 = .ok (.iload 8, 2) := by decide +kernel
theorem dX12_keptOn_202 : decode cX12_keptOn 202 = .ok (.iload_n 3, 1) := by decide +kernel
theorem dX12_keptOn_203 : decode cX12_keptOn 203 = .ok (.if_icmp .ge 7, 3) := by decide +kernel
theorem dX12_keptOn_206 : decode cX12_keptOn 206 = .ok (.iconst 0, 1) := by decide +kernel
theorem dX12_keptOn_207 : decode cX12_keptOn 207 = .ok (.goto 4, 3) := by decide +kernel
theorem dX12_keptOn_210 : decode cX12_keptOn 210 = .ok (.iconst 1, 1) := by decide +kernel
theorem dX12_keptOn_211 : decode cX12_keptOn 211 = .ok (.ireturn, 1) := by decide +kernel
theorem dX12_keptOn_212 : decode cX12_keptOn 212 = .ok (.iload 8, 2) := by decide +kernel
theorem dX12_keptOn_214 : decode cX12_keptOn 214 = .ok (.ifCond .ne 7, 3) := by decide +kernel
theorem dX12_keptOn_217 : decode cX12_keptOn 217 = .ok (.iconst 0, 1) := by decide +kernel
theorem dX12_keptOn_218 : decode cX12_keptOn 218 = .ok (.goto 13, 3) := by decide +kernel
theorem dX12_keptOn_221 : decode cX12_keptOn 221 = .ok (.iload 7, 2) := by decide +kernel
theorem dX12_keptOn_223 : decode cX12_keptOn 223 = .ok (.ifCond .le 7, 3) := by decide +kernel
theorem dX12_keptOn_226 : decode cX12_keptOn 226 = .ok (.iconst 2, 1) := by decide +kernel
theorem dX12_keptOn_227 : decode cX12_keptOn 227 = .ok (.goto 4, 3) := by decide +kernel
theorem dX12_keptOn_230 : decode cX12_keptOn 230 = .ok (.iconst 1, 1) := by decide +kernel
theorem dX12_keptOn_231 : decode cX12_keptOn 231 = .ok (.ireturn, 1) := by decide +kernel
set_option maxRecDepth 20000 in
theorem ggX12_kept_X12_isLaw : GoodIn wsX12_kept wsX12_isLaw := goodIn_r _ [5, 6, 7, 8, 4, 9, 64, 65, 66, 67, 68, 69, 70, 71, 72, 73, 74, 75, 76, 77, 78, 79, 80, 81, 82, 83, 84, 85, 86, 87, 88, 89, 90, 91] (by decide +kernel) (by decide +kernel)
set_option maxRecDepth 20000 in
theorem gX12_kept_X12_isLaw : GoodIn wsX12_kept (wsV RX12 148 RX12 yX12_isLaw wsX12_isLaw) := goodIn_app (goodIn_of _ (by decide +kernel)) ggX12_kept_X12_isLaw
set_option maxRecDepth 20000 in
theorem ggX12_kept_X12_isPerson : GoodIn wsX12_kept wsX12_isPerson := goodIn_r _ [13, 14, 7, 8, 4, 9, 64, 65, 66, 67, 68, 69, 70, 71, 72, 73, 74, 75, 76, 77, 78, 79, 80, 81, 82, 83, 84, 85, 86, 87, 88, 89, 90, 91] (by decide +kernel) (by decide +kernel)
set_option maxRecDepth 20000 in
theorem gX12_kept_X12_isPerson : GoodIn wsX12_kept (wsV RX12 114 RX12 yX12_isPerson wsX12_isPerson) := goodIn_app (goodIn_of _ (by decide +kernel)) ggX12_kept_X12_isPerson
set_option maxRecDepth 20000 in
theorem ggX12_kept_X12_isDay : GoodIn wsX12_kept wsX12_isDay := goodIn_r _ [17, 7, 8, 4, 9] (by decide +kernel) (by decide +kernel)
set_option maxRecDepth 20000 in
theorem gX12_kept_X12_isDay : GoodIn wsX12_kept (va_wsS RX12 111 yX12_isDay wsX12_isDay) := goodIn_app (goodIn_of _ (by decide +kernel)) ggX12_kept_X12_isDay
set_option maxRecDepth 20000 in
theorem ggX12_kept_X12_lay : GoodIn wsX12_kept wsX12_lay := goodIn_r _ [21, 22, 23, 24, 25, 4, 26, 27, 28, 29, 30, 31, 32, 33, 34, 35, 36, 37, 38, 39, 40, 41, 42, 43, 44, 45, 46, 47, 64, 65, 66, 67, 68, 69, 70, 71, 72, 73, 74, 75, 76, 77, 78, 79, 80, 81, 82, 83, 84, 85, 86, 87, 88, 89, 90, 91] (by decide +kernel) (by decide +kernel)
set_option maxRecDepth 20000 in
theorem gX12_kept_X12_lay : GoodIn wsX12_kept (wsV RX12 135 RX12 yX12_lay wsX12_lay) := goodIn_app (goodIn_of _ (by decide +kernel)) ggX12_kept_X12_lay
set_option maxRecDepth 20000 in
theorem ggX12_kept_X12_keptOn : GoodIn wsX12_kept wsX12_keptOn := goodIn_r _ [51, 52, 53, 54, 55, 56, 57, 58, 4, 59, 46, 60, 61, 62, 63, 47, 64, 65, 66, 67, 68, 69, 70, 71, 72, 73, 74, 75, 76, 77, 78, 79, 80, 81, 82, 83, 84, 85, 86, 87, 88, 89, 90, 91] (by decide +kernel) (by decide +kernel)
set_option maxRecDepth 20000 in
theorem gX12_kept_X12_keptOn : GoodIn wsX12_kept (wsV RX12 151 RX12 yX12_keptOn wsX12_keptOn) := goodIn_app (goodIn_of _ (by decide +kernel)) ggX12_kept_X12_keptOn
theorem dX12_kept_0 : decode cX12_kept 0 = .ok (.aload_n 0, 1) := by decide +kernel
theorem dX12_kept_1 : decode cX12_kept 1 = .ok (.iload_n 1, 1) := by decide +kernel
theorem dX12_kept_2 : decode cX12_kept 2 = .ok (.invokevirtual 148, 3) := by decide +kernel
theorem dX12_kept_5 : decode cX12_kept 5 = .ok (.ifCond .eq 18, 3) := by decide +kernel
theorem dX12_kept_8 : decode cX12_kept 8 = .ok (.aload_n 0, 1) := by decide +kernel
theorem dX12_kept_9 : decode cX12_kept 9 = .ok (.iload_n 2, 1) := by decide +kernel
theorem dX12_kept_10 : decode cX12_kept 10 = .ok (.invokevirtual 114, 3) := by decide +kernel
theorem dX12_kept_13 : decode cX12_kept 13 = .ok (.ifCond .eq 10, 3) := by decide +kernel
theorem dX12_kept_16 : decode cX12_kept 16 = .ok (.iload_n 3, 1) := by decide +kernel
theorem dX12_kept_17 : decode cX12_kept 17 = .ok (.invokestatic 111, 3) := by decide +kernel
theorem dX12_kept_20 : decode cX12_kept 20 = .ok (.ifCond .ne 5, 3) := by decide +kernel
theorem dX12_kept_23 : decode cX12_kept 23 = .ok (.iconst (-1), 1) := by decide +kernel
theorem dX12_kept_24 : decode cX12_kept 24 = .ok (.ireturn, 1) := by decide +kernel
theorem dX12_kept_25 : decode cX12_kept 25 = .ok (.aload_n 0, 1) := by decide +kernel
theorem dX12_kept_26 : decode cX12_kept 26 = .ok (.iload_n 2, 1) := by decide +kernel
theorem dX12_kept_27 : decode cX12_kept 27 = .ok (.invokevirtual 135, 3) := by decide +kernel
theorem dX12_kept_30 : decode cX12_kept 30 = .ok (.aload_n 0, 1) := by decide +kernel
theorem dX12_kept_31 : decode cX12_kept 31 = .ok (.iload_n 1, 1) := by decide +kernel
theorem dX12_kept_32 : decode cX12_kept 32 = .ok (.iload_n 3, 1) := by decide +kernel
theorem dX12_kept_33 : decode cX12_kept 33 = .ok (.invokevirtual 151, 3) := by decide +kernel
theorem dX12_kept_36 : decode cX12_kept 36 = .ok (.ireturn, 1) := by decide +kernel
set_option maxRecDepth 20000 in
theorem ggX12_first_X12_isLaw : GoodIn wsX12_first wsX12_isLaw := goodIn_r _ [5, 6, 7, 8, 4, 9, 64, 65, 66, 67, 68, 69, 70, 71, 72, 73, 74, 75, 76, 77, 78, 79, 80, 81, 82, 83, 84, 85, 86, 87, 88, 89, 90, 91] (by decide +kernel) (by decide +kernel)
set_option maxRecDepth 20000 in
theorem gX12_first_X12_isLaw : GoodIn wsX12_first (wsV RX12 148 RX12 yX12_isLaw wsX12_isLaw) := goodIn_app (goodIn_of _ (by decide +kernel)) ggX12_first_X12_isLaw
set_option maxRecDepth 20000 in
theorem ggX12_first_X12_isPerson : GoodIn wsX12_first wsX12_isPerson := goodIn_r _ [13, 14, 7, 8, 4, 9, 64, 65, 66, 67, 68, 69, 70, 71, 72, 73, 74, 75, 76, 77, 78, 79, 80, 81, 82, 83, 84, 85, 86, 87, 88, 89, 90, 91] (by decide +kernel) (by decide +kernel)
set_option maxRecDepth 20000 in
theorem gX12_first_X12_isPerson : GoodIn wsX12_first (wsV RX12 114 RX12 yX12_isPerson wsX12_isPerson) := goodIn_app (goodIn_of _ (by decide +kernel)) ggX12_first_X12_isPerson
set_option maxRecDepth 20000 in
theorem ggX12_first_X12_isDay : GoodIn wsX12_first wsX12_isDay := goodIn_r _ [17, 7, 8, 4, 9] (by decide +kernel) (by decide +kernel)
set_option maxRecDepth 20000 in
theorem gX12_first_X12_isDay : GoodIn wsX12_first (va_wsS RX12 111 yX12_isDay wsX12_isDay) := goodIn_app (goodIn_of _ (by decide +kernel)) ggX12_first_X12_isDay
set_option maxRecDepth 20000 in
theorem ggX12_first_X12_lay : GoodIn wsX12_first wsX12_lay := goodIn_r _ [21, 22, 23, 24, 25, 4, 26, 27, 28, 29, 30, 31, 32, 33, 34, 35, 36, 37, 38, 39, 40, 41, 42, 43, 44, 45, 46, 47, 64, 65, 66, 67, 68, 69, 70, 71, 72, 73, 74, 75, 76, 77, 78, 79, 80, 81, 82, 83, 84, 85, 86, 87, 88, 89, 90, 91] (by decide +kernel) (by decide +kernel)
set_option maxRecDepth 20000 in
theorem gX12_first_X12_lay : GoodIn wsX12_first (wsV RX12 135 RX12 yX12_lay wsX12_lay) := goodIn_app (goodIn_of _ (by decide +kernel)) ggX12_first_X12_lay
set_option maxRecDepth 20000 in
theorem ggX12_first_X12_keptOn : GoodIn wsX12_first wsX12_keptOn := goodIn_r _ [51, 52, 53, 54, 55, 56, 57, 58, 4, 59, 46, 60, 61, 62, 63, 47, 64, 65, 66, 67, 68, 69, 70, 71, 72, 73, 74, 75, 76, 77, 78, 79, 80, 81, 82, 83, 84, 85, 86, 87, 88, 89, 90, 91] (by decide +kernel) (by decide +kernel)
set_option maxRecDepth 20000 in
theorem gX12_first_X12_keptOn : GoodIn wsX12_first (wsV RX12 151 RX12 yX12_keptOn wsX12_keptOn) := goodIn_app (goodIn_of _ (by decide +kernel)) ggX12_first_X12_keptOn
theorem dX12_first_0 : decode cX12_first 0 = .ok (.aload_n 0, 1) := by decide +kernel
theorem dX12_first_1 : decode cX12_first 1 = .ok (.iload_n 1, 1) := by decide +kernel
theorem dX12_first_2 : decode cX12_first 2 = .ok (.invokevirtual 148, 3) := by decide +kernel
theorem dX12_first_5 : decode cX12_first 5 = .ok (.ifCond .eq 18, 3) := by decide +kernel
theorem dX12_first_8 : decode cX12_first 8 = .ok (.aload_n 0, 1) := by decide +kernel
theorem dX12_first_9 : decode cX12_first 9 = .ok (.iload_n 2, 1) := by decide +kernel
theorem dX12_first_10 : decode cX12_first 10 = .ok (.invokevirtual 114, 3) := by decide +kernel
theorem dX12_first_13 : decode cX12_first 13 = .ok (.ifCond .eq 10, 3) := by decide +kernel
theorem dX12_first_16 : decode cX12_first 16 = .ok (.iload_n 3, 1) := by decide +kernel
theorem dX12_first_17 : decode cX12_first 17 = .ok (.invokestatic 111, 3) := by decide +kernel
theorem dX12_first_20 : decode cX12_first 20 = .ok (.ifCond .ne 5, 3) := by decide +kernel
theorem dX12_first_23 : decode cX12_first 23 = .ok (.iconst (-1), 1) := by decide +kernel
theorem dX12_first_24 : decode cX12_first 24 = .ok (.ireturn, 1) := by decide +kernel
theorem dX12_first_25 : decode cX12_first 25 = .ok (.aload_n 0, 1) := by decide +kernel
theorem dX12_first_26 : decode cX12_first 26 = .ok (.iload_n 2, 1) := by decide +kernel
theorem dX12_first_27 : decode cX12_first 27 = .ok (.invokevirtual 135, 3) := by decide +kernel
theorem dX12_first_30 : decode cX12_first 30 = .ok (.iload_n 3, 1) := by decide +kernel
theorem dX12_first_31 : decode cX12_first 31 = .ok (.istore 5, 2) := by decide +kernel
theorem dX12_first_33 : decode cX12_first 33 = .ok (.iload 5, 2) := by decide +kernel
theorem dX12_first_35 : decode cX12_first 35 = .ok (.sipush 400, 3) := by decide +kernel
theorem dX12_first_38 : decode cX12_first 38 = .ok (.if_icmp .ge 32, 3) := by decide +kernel
theorem dX12_first_41 : decode cX12_first 41 = .ok (.aload_n 0, 1) := by decide +kernel
theorem dX12_first_42 : decode cX12_first 42 = .ok (.iload_n 1, 1) := by decide +kernel
theorem dX12_first_43 : decode cX12_first 43 = .ok (.iload 5, 2) := by decide +kernel
theorem dX12_first_45 : decode cX12_first 45 = .ok (.invokevirtual 151, 3) := by decide +kernel
theorem dX12_first_48 : decode cX12_first 48 = .ok (.iload 4, 2) := by decide +kernel
theorem dX12_first_50 : decode cX12_first 50 = .ok (.ifCond .eq 7, 3) := by decide +kernel
theorem dX12_first_53 : decode cX12_first 53 = .ok (.iconst 1, 1) := by decide +kernel
theorem dX12_first_54 : decode cX12_first 54 = .ok (.goto 4, 3) := by decide +kernel
theorem dX12_first_57 : decode cX12_first 57 = .ok (.iconst 2, 1) := by decide +kernel
theorem dX12_first_58 : decode cX12_first 58 = .ok (.if_icmp .ge 6, 3) := by decide +kernel
theorem dX12_first_61 : decode cX12_first 61 = .ok (.iload 5, 2) := by decide +kernel
theorem dX12_first_63 : decode cX12_first 63 = .ok (.ireturn, 1) := by decide +kernel
theorem dX12_first_64 : decode cX12_first 64 = .ok (.iinc 5 1, 3) := by decide +kernel
theorem dX12_first_67 : decode cX12_first 67 = .ok (.goto (-34), 3) := by decide +kernel
theorem dX12_first_70 : decode cX12_first 70 = .ok (.bipush (-2), 2) := by decide +kernel
theorem dX12_first_72 : decode cX12_first 72 = .ok (.ireturn, 1) := by decide +kernel
set_option maxRecDepth 20000 in
theorem ggX12_broken_X12_isPerson : GoodIn wsX12_broken wsX12_isPerson := goodIn_r _ [6, 7, 8, 9, 5, 10, 57, 58, 59, 60, 61, 62, 63, 64, 65, 66, 67, 68, 69, 70, 71, 72, 73, 74, 75, 76, 77, 78, 79, 80, 81, 82, 83, 84] (by decide +kernel) (by decide +kernel)
set_option maxRecDepth 20000 in
theorem gX12_broken_X12_isPerson : GoodIn wsX12_broken (wsV RX12 114 RX12 yX12_isPerson wsX12_isPerson) := goodIn_app (goodIn_of _ (by decide +kernel)) ggX12_broken_X12_isPerson
set_option maxRecDepth 20000 in
theorem ggX12_broken_X12_lay : GoodIn wsX12_broken wsX12_lay := goodIn_r _ [14, 15, 16, 17, 18, 5, 19, 20, 21, 22, 23, 24, 25, 26, 27, 28, 29, 30, 31, 32, 33, 34, 35, 36, 37, 38, 39, 40, 57, 58, 59, 60, 61, 62, 63, 64, 65, 66, 67, 68, 69, 70, 71, 72, 73, 74, 75, 76, 77, 78, 79, 80, 81, 82, 83, 84] (by decide +kernel) (by decide +kernel)
set_option maxRecDepth 20000 in
theorem gX12_broken_X12_lay : GoodIn wsX12_broken (wsV RX12 135 RX12 yX12_lay wsX12_lay) := goodIn_app (goodIn_of _ (by decide +kernel)) ggX12_broken_X12_lay
set_option maxRecDepth 20000 in
theorem ggX12_broken_X12_keptOn : GoodIn wsX12_broken wsX12_keptOn := goodIn_r _ [44, 45, 46, 47, 48, 49, 50, 51, 5, 52, 39, 53, 54, 55, 56, 40, 57, 58, 59, 60, 61, 62, 63, 64, 65, 66, 67, 68, 69, 70, 71, 72, 73, 74, 75, 76, 77, 78, 79, 80, 81, 82, 83, 84] (by decide +kernel) (by decide +kernel)
set_option maxRecDepth 20000 in
theorem gX12_broken_X12_keptOn : GoodIn wsX12_broken (wsV RX12 151 RX12 yX12_keptOn wsX12_keptOn) := goodIn_app (goodIn_of _ (by decide +kernel)) ggX12_broken_X12_keptOn
theorem dX12_broken_0 : decode cX12_broken 0 = .ok (.aload_n 0, 1) := by decide +kernel
theorem dX12_broken_1 : decode cX12_broken 1 = .ok (.iload_n 1, 1) := by decide +kernel
theorem dX12_broken_2 : decode cX12_broken 2 = .ok (.invokevirtual 114, 3) := by decide +kernel
theorem dX12_broken_5 : decode cX12_broken 5 = .ok (.ifCond .ne 5, 3) := by decide +kernel
theorem dX12_broken_8 : decode cX12_broken 8 = .ok (.iconst (-1), 1) := by decide +kernel
theorem dX12_broken_9 : decode cX12_broken 9 = .ok (.ireturn, 1) := by decide +kernel
theorem dX12_broken_10 : decode cX12_broken 10 = .ok (.aload_n 0, 1) := by decide +kernel
theorem dX12_broken_11 : decode cX12_broken 11 = .ok (.iload_n 1, 1) := by decide +kernel
theorem dX12_broken_12 : decode cX12_broken 12 = .ok (.invokevirtual 135, 3) := by decide +kernel
theorem dX12_broken_15 : decode cX12_broken 15 = .ok (.iconst 0, 1) := by decide +kernel
theorem dX12_broken_16 : decode cX12_broken 16 = .ok (.istore_n 2, 1) := by decide +kernel
theorem dX12_broken_17 : decode cX12_broken 17 = .ok (.iconst 0, 1) := by decide +kernel
theorem dX12_broken_18 : decode cX12_broken 18 = .ok (.istore_n 3, 1) := by decide +kernel
theorem dX12_broken_19 : decode cX12_broken 19 = .ok (.iload_n 3, 1) := by decide +kernel
theorem dX12_broken_20 : decode cX12_broken 20 = .ok (.aload_n 0, 1) := by decide +kernel
theorem dX12_broken_21 : decode cX12_broken 21 = .ok (.getfield 145, 3) := by decide +kernel
theorem dX12_broken_24 : decode cX12_broken 24 = .ok (.if_icmp .ge 46, 3) := by decide +kernel
theorem dX12_broken_27 : decode cX12_broken 27 = .ok (.iconst 0, 1) := by decide +kernel
theorem dX12_broken_28 : decode cX12_broken 28 = .ok (.istore 4, 2) := by decide +kernel
theorem dX12_broken_30 : decode cX12_broken 30 = .ok (.iload 4, 2) := by decide +kernel
theorem dX12_broken_32 : decode cX12_broken 32 = .ok (.sipush 400, 3) := by decide +kernel
theorem dX12_broken_35 : decode cX12_broken 35 = .ok (.if_icmp .ge 29, 3) := by decide +kernel
theorem dX12_broken_38 : decode cX12_broken 38 = .ok (.iload_n 2, 1) := by decide +kernel
theorem dX12_broken_39 : decode cX12_broken 39 = .ok (.aload_n 0, 1) := by decide +kernel
theorem dX12_broken_40 : decode cX12_broken 40 = .ok (.iload_n 3, 1) := by decide +kernel
theorem dX12_broken_41 : decode cX12_broken 41 = .ok (.iload 4, 2) := by decide +kernel
theorem dX12_broken_43 : decode cX12_broken 43 = .ok (.invokevirtual 151, 3) := by decide +kernel
theorem dX12_broken_46 : decode cX12_broken 46 = .ok (.ifCond .ne 9, 3) := by decide +kernel
theorem dX12_broken_49 : decode cX12_broken 49 = .ok (.iconst 1, 1) := by decide +kernel
theorem dX12_broken_50 : decode cX12_broken 50 = .ok (.iload_n 3, 1) := by decide +kernel
theorem dX12_broken_51 : decode cX12_broken 51 = .ok (.ishl, 1) := by decide +kernel
theorem dX12_broken_52 : decode cX12_broken 52 = .ok (.goto 4, 3) := by decide +kernel
theorem dX12_broken_55 : decode cX12_broken 55 = .ok (.iconst 0, 1) := by decide +kernel
theorem dX12_broken_56 : decode cX12_broken 56 = .ok (.ior, 1) := by decide +kernel
theorem dX12_broken_57 : decode cX12_broken 57 = .ok (.istore_n 2, 1) := by decide +kernel
theorem dX12_broken_58 : decode cX12_broken 58 = .ok (.iinc 4 1, 3) := by decide +kernel
theorem dX12_broken_61 : decode cX12_broken 61 = .ok (.goto (-31), 3) := by decide +kernel
theorem dX12_broken_64 : decode cX12_broken 64 = .ok (.iinc 3 1, 3) := by decide +kernel
theorem dX12_broken_67 : decode cX12_broken 67 = .ok (.goto (-48), 3) := by decide +kernel
theorem dX12_broken_70 : decode cX12_broken 70 = .ok (.iload_n 2, 1) := by decide +kernel
theorem dX12_broken_71 : decode cX12_broken 71 = .ok (.ireturn, 1) := by decide +kernel
set_option maxRecDepth 20000 in
theorem ggX12_allKept_X12_keptOn : GoodIn wsX12_allKept wsX12_keptOn := goodIn_r _ [7, 8, 9, 2, 10, 11, 12, 13, 6, 14, 15, 16, 17, 18, 19, 20, 21, 22, 23, 24, 25, 26, 27, 28, 29, 30, 31, 32, 33, 34, 35, 36, 37, 38, 39, 40, 41, 42, 43, 44, 45, 46, 47, 48] (by decide +kernel) (by decide +kernel)
set_option maxRecDepth 20000 in
theorem gX12_allKept_X12_keptOn : GoodIn wsX12_allKept (wsV RX12 151 RX12 yX12_keptOn wsX12_keptOn) := goodIn_app (goodIn_of _ (by decide +kernel)) ggX12_allKept_X12_keptOn
theorem dX12_allKept_0 : decode cX12_allKept 0 = .ok (.iconst 0, 1) := by decide +kernel
theorem dX12_allKept_1 : decode cX12_allKept 1 = .ok (.istore_n 3, 1) := by decide +kernel
theorem dX12_allKept_2 : decode cX12_allKept 2 = .ok (.iload_n 3, 1) := by decide +kernel
theorem dX12_allKept_3 : decode cX12_allKept 3 = .ok (.aload_n 0, 1) := by decide +kernel
theorem dX12_allKept_4 : decode cX12_allKept 4 = .ok (.getfield 145, 3) := by decide +kernel
theorem dX12_allKept_7 : decode cX12_allKept 7 = .ok (.if_icmp .ge 50, 3) := by decide +kernel
theorem dX12_allKept_10 : decode cX12_allKept 10 = .ok (.aload_n 0, 1) := by decide +kernel
theorem dX12_allKept_11 : decode cX12_allKept 11 = .ok (.getfield 50, 3) := by decide +kernel
theorem dX12_allKept_14 : decode cX12_allKept 14 = .ok (.iload_n 3, 1) := by decide +kernel
theorem dX12_allKept_15 : decode cX12_allKept 15 = .ok (.iaload, 1) := by decide +kernel
theorem dX12_allKept_16 : decode cX12_allKept 16 = .ok (.iconst 2, 1) := by decide +kernel
theorem dX12_allKept_17 : decode cX12_allKept 17 = .ok (.if_icmp .ne 6, 3) := by decide +kernel
theorem dX12_allKept_20 : decode cX12_allKept 20 = .ok (.goto 31, 3) := by decide +kernel
theorem dX12_allKept_23 : decode cX12_allKept 23 = .ok (.iload_n 1, 1) := by decide +kernel
theorem dX12_allKept_24 : decode cX12_allKept 24 = .ok (.istore 4, 2) := by decide +kernel
theorem dX12_allKept_26 : decode cX12_allKept 26 = .ok (.iload 4, 2) := by decide +kernel
theorem dX12_allKept_28 : decode cX12_allKept 28 = .ok (.iload_n 2, 1) := by decide +kernel
theorem dX12_allKept_29 : decode cX12_allKept 29 = .ok (.if_icmp .gt 22, 3) := by decide +kernel
theorem dX12_allKept_32 : decode cX12_allKept 32 = .ok (.aload_n 0, 1) := by decide +kernel
theorem dX12_allKept_33 : decode cX12_allKept 33 = .ok (.iload_n 3, 1) := by decide +kernel
theorem dX12_allKept_34 : decode cX12_allKept 34 = .ok (.iload 4, 2) := by decide +kernel
theorem dX12_allKept_36 : decode cX12_allKept 36 = .ok (.invokevirtual 151, 3) := by decide +kernel
theorem dX12_allKept_39 : decode cX12_allKept 39 = .ok (.iconst 2, 1) := by decide +kernel
theorem dX12_allKept_40 : decode cX12_allKept 40 = .ok (.if_icmp .ge 5, 3) := by decide +kernel
theorem dX12_allKept_43 : decode cX12_allKept 43 = .ok (.iconst 0, 1) := by decide +kernel
theorem dX12_allKept_44 : decode cX12_allKept 44 = .ok (.ireturn, 1) := by decide +kernel
theorem dX12_allKept_45 : decode cX12_allKept 45 = .ok (.iinc 4 1, 3) := by decide +kernel
theorem dX12_allKept_48 : decode cX12_allKept 48 = .ok (.goto (-22), 3) := by decide +kernel
theorem dX12_allKept_51 : decode cX12_allKept 51 = .ok (.iinc 3 1, 3) := by decide +kernel
theorem dX12_allKept_54 : decode cX12_allKept 54 = .ok (.goto (-52), 3) := by decide +kernel
theorem dX12_allKept_57 : decode cX12_allKept 57 = .ok (.iconst 1, 1) := by decide +kernel
theorem dX12_allKept_58 : decode cX12_allKept 58 = .ok (.ireturn, 1) := by decide +kernel
set_option maxRecDepth 20000 in
theorem ggX12_travel_X12_lay : GoodIn wsX12_travel wsX12_lay := goodIn_r _ [9, 3, 10, 11, 12, 8, 13, 14, 15, 16, 17, 18, 19, 20, 21, 22, 23, 24, 25, 26, 27, 28, 29, 30, 31, 32, 33, 34, 56, 57, 58, 59, 60, 61, 62, 63, 64, 65, 66, 67, 68, 69, 70, 71, 72, 73, 74, 75, 76, 77, 78, 79, 80, 81, 82, 83] (by decide +kernel) (by decide +kernel)
set_option maxRecDepth 20000 in
theorem gX12_travel_X12_lay : GoodIn wsX12_travel (wsV RX12 135 RX12 yX12_lay wsX12_lay) := goodIn_app (goodIn_of _ (by decide +kernel)) ggX12_travel_X12_lay
set_option maxRecDepth 20000 in
theorem ggX12_travel_X12_add : GoodIn wsX12_travel wsX12_add := goodIn_r _ [28, 29, 30, 31, 8, 32, 33, 34, 3, 56, 57, 58, 59, 60, 61, 62, 63, 64, 65, 66, 67, 68, 69, 70, 71, 72, 73, 74, 75, 76, 77, 78, 79, 80, 81, 82, 83] (by decide +kernel) (by decide +kernel)
set_option maxRecDepth 20000 in
theorem gX12_travel_X12_add : GoodIn wsX12_travel (wsV RX12 132 RX12 yX12_add wsX12_add) := goodIn_app (goodIn_of _ (by decide +kernel)) ggX12_travel_X12_add
set_option maxRecDepth 20000 in
theorem ggX12_travel_X12_addLand : GoodIn wsX12_travel wsX12_addLand := goodIn_r _ [32, 33, 34, 3, 56, 57, 58, 59, 60, 61, 62, 63, 64, 65, 66, 67, 68, 69, 70, 71, 72, 73, 74, 75, 76, 77, 78, 79, 80, 81, 82, 83] (by decide +kernel) (by decide +kernel)
set_option maxRecDepth 20000 in
theorem gX12_travel_X12_addLand : GoodIn wsX12_travel (wsV RX12 128 RX12 yX12_addLand wsX12_addLand) := goodIn_app (goodIn_of _ (by decide +kernel)) ggX12_travel_X12_addLand
set_option maxRecDepth 20000 in
theorem ggX12_travel_X12_allKept : GoodIn wsX12_travel wsX12_allKept := goodIn_r _ [38, 39, 40, 41, 42, 43, 8, 44, 45, 46, 47, 48, 49, 50, 51, 33, 52, 53, 54, 55, 34, 56, 57, 58, 59, 60, 61, 62, 63, 64, 65, 66, 67, 68, 69, 70, 71, 72, 73, 74, 75, 76, 77, 78, 79, 80, 81, 82, 83] (by decide +kernel) (by decide +kernel)
set_option maxRecDepth 20000 in
theorem gX12_travel_X12_allKept : GoodIn wsX12_travel (wsV RX12 154 RX12 yX12_allKept wsX12_allKept) := goodIn_app (goodIn_of _ (by decide +kernel)) ggX12_travel_X12_allKept
theorem dX12_travel_0 : decode cX12_travel 0 = .ok (.aload_n 0, 1) := by decide +kernel
theorem dX12_travel_1 : decode cX12_travel 1 = .ok (.iload_n 1, 1) := by decide +kernel
theorem dX12_travel_2 : decode cX12_travel 2 = .ok (.invokevirtual 135, 3) := by decide +kernel
theorem dX12_travel_5 : decode cX12_travel 5 = .ok (.aload_n 0, 1) := by decide +kernel
theorem dX12_travel_6 : decode cX12_travel 6 = .ok (.getfield 7, 3) := by decide +kernel
theorem dX12_travel_9 : decode cX12_travel 9 = .ok (.iload_n 1, 1) := by decide +kernel
theorem dX12_travel_10 : decode cX12_travel 10 = .ok (.iaload, 1) := by decide +kernel
theorem dX12_travel_11 : decode cX12_travel 11 = .ok (.istore 5, 2) := by decide +kernel
theorem dX12_travel_13 : decode cX12_travel 13 = .ok (.iload 5, 2) := by decide +kernel
theorem dX12_travel_15 : decode cX12_travel 15 = .ok (.iload_n 2, 1) := by decide +kernel
theorem dX12_travel_16 : decode cX12_travel 16 = .ok (.if_icmp .ne 11, 3) := by decide +kernel
theorem dX12_travel_19 : decode cX12_travel 19 = .ok (.aload_n 0, 1) := by decide +kernel
theorem dX12_travel_20 : decode cX12_travel 20 = .ok (.getfield 13, 3) := by decide +kernel
theorem dX12_travel_23 : decode cX12_travel 23 = .ok (.iload_n 1, 1) := by decide +kernel
theorem dX12_travel_24 : decode cX12_travel 24 = .ok (.iaload, 1) := by decide +kernel
theorem dX12_travel_25 : decode cX12_travel 25 = .ok (.istore 5, 2) := by decide +kernel
theorem dX12_travel_27 : decode cX12_travel 27 = .ok (.iload 5, 2) := by decide +kernel
theorem dX12_travel_29 : decode cX12_travel 29 = .ok (.iload_n 2, 1) := by decide +kernel
theorem dX12_travel_30 : decode cX12_travel 30 = .ok (.if_icmp .ne 14, 3) := by decide +kernel
theorem dX12_travel_33 : decode cX12_travel 33 = .ok (.iload_n 2, 1) := by decide +kernel
theorem dX12_travel_34 : decode cX12_travel 34 = .ok (.ifCond .ne 7, 3) := by decide +kernel
theorem dX12_travel_37 : decode cX12_travel 37 = .ok (.iconst 1, 1) := by decide +kernel
theorem dX12_travel_38 : decode cX12_travel 38 = .ok (.goto 4, 3) := by decide +kernel
theorem dX12_travel_41 : decode cX12_travel 41 = .ok (.iconst 0, 1) := by decide +kernel
theorem dX12_travel_42 : decode cX12_travel 42 = .ok (.istore 5, 2) := by decide +kernel
theorem dX12_travel_44 : decode cX12_travel 44 = .ok (.iload_n 3, 1) := by decide +kernel
theorem dX12_travel_45 : decode cX12_travel 45 = .ok (.istore 6, 2) := by decide +kernel
theorem dX12_travel_47 : decode cX12_travel 47 = .ok (.iload 6, 2) := by decide +kernel
theorem dX12_travel_49 : decode cX12_travel 49 = .ok (.iload 4, 2) := by decide +kernel
theorem dX12_travel_51 : decode cX12_travel 51 = .ok (.if_icmp .gt 20, 3) := by decide +kernel
theorem dX12_travel_54 : decode cX12_travel 54 = .ok (.aload_n 0, 1) := by decide +kernel
theorem dX12_travel_55 : decode cX12_travel 55 = .ok (.getfield 38, 3) := by decide +kernel
theorem dX12_travel_58 : decode cX12_travel 58 = .ok (.iload 6, 2) := by decide +kernel
theorem dX12_travel_60 : decode cX12_travel 60 = .ok (.iconst 1, 1) := by decide +kernel
theorem dX12_travel_61 : decode cX12_travel 61 = .ok (.iload 5, 2) := by decide +kernel
theorem dX12_travel_63 : decode cX12_travel 63 = .ok (.ishl, 1) := by decide +kernel
theorem dX12_travel_64 : decode cX12_travel 64 = .ok (.iastore, 1) := by decide +kernel
theorem dX12_travel_65 : decode cX12_travel 65 = .ok (.iinc 6 1, 3) := by decide +kernel
theorem dX12_travel_68 : decode cX12_travel 68 = .ok (.goto (-21), 3) := by decide +kernel
theorem dX12_travel_71 : decode cX12_travel 71 = .ok (.aload_n 0, 1) := by decide +kernel
theorem dX12_travel_72 : decode cX12_travel 72 = .ok (.invokevirtual 132, 3) := by decide +kernel
theorem dX12_travel_75 : decode cX12_travel 75 = .ok (.iconst 0, 1) := by decide +kernel
theorem dX12_travel_76 : decode cX12_travel 76 = .ok (.istore 6, 2) := by decide +kernel
theorem dX12_travel_78 : decode cX12_travel 78 = .ok (.iload_n 3, 1) := by decide +kernel
theorem dX12_travel_79 : decode cX12_travel 79 = .ok (.istore 7, 2) := by decide +kernel
theorem dX12_travel_81 : decode cX12_travel 81 = .ok (.iload 7, 2) := by decide +kernel
theorem dX12_travel_83 : decode cX12_travel 83 = .ok (.iload 4, 2) := by decide +kernel
theorem dX12_travel_85 : decode cX12_travel 85 = .ok (.if_icmp .gt 72, 3) := by decide +kernel
theorem dX12_travel_88 : decode cX12_travel 88 = .ok (.aload_n 0, 1) := by decide +kernel
theorem dX12_travel_89 : decode cX12_travel 89 = .ok (.getfield 38, 3) := by decide +kernel
theorem dX12_travel_92 : decode cX12_travel 92 = .ok (.iload 7, 2) := by decide +kernel
theorem dX12_travel_94 : decode cX12_travel 94 = .ok (.iconst 1, 1) := by decide +kernel
theorem dX12_travel_95 : decode cX12_travel 95 = .ok (.iload_n 2, 1) := by decide +kernel
theorem dX12_travel_96 : decode cX12_travel 96 = .ok (.ishl, 1) := by decide +kernel
theorem dX12_travel_97 : decode cX12_travel 97 = .ok (.iastore, 1) := by decide +kernel
theorem dX12_travel_98 : decode cX12_travel 98 = .ok (.aload_n 0, 1) := by decide +kernel
theorem dX12_travel_99 : decode cX12_travel 99 = .ok (.iload_n 2, 1) := by decide +kernel
theorem dX12_travel_100 : decode cX12_travel 100 = .ok (.invokevirtual 128, 3) := by decide +kernel
theorem dX12_travel_103 : decode cX12_travel 103 = .ok (.aload_n 0, 1) := by decide +kernel
theorem dX12_travel_104 : decode cX12_travel 104 = .ok (.iload 5, 2) := by decide +kernel
theorem dX12_travel_106 : decode cX12_travel 106 = .ok (.invokevirtual 128, 3) := by decide +kernel
theorem dX12_travel_109 : decode cX12_travel 109 = .ok (.aload_n 0, 1) := by decide +kernel
theorem dX12_travel_110 : decode cX12_travel 110 = .ok (.getfield 62, 3) := by decide +kernel
theorem dX12_travel_113 : decode cX12_travel 113 = .ok (.iload 7, 2) := by decide +kernel
theorem dX12_travel_115 : decode cX12_travel 115 = .ok (.aload_n 0, 1) := by decide +kernel
theorem dX12_travel_116 : decode cX12_travel 116 = .ok (.iload 7, 2) := by decide +kernel
theorem dX12_travel_118 : decode cX12_travel 118 = .ok (.iload 4, 2) := by decide +kernel
theorem dX12_travel_120 : decode cX12_travel 120 = .ok (.invokevirtual 154, 3) := by decide +kernel
theorem dX12_travel_123 : decode cX12_travel 123 = .ok (.bastore, 1) := by decide +kernel
theorem dX12_travel_124 : decode cX12_travel 124 = .ok (.aload_n 0, 1) := by decide +kernel
theorem dX12_travel_125 : decode cX12_travel 125 = .ok (.getfield 62, 3) := by decide +kernel
theorem dX12_travel_128 : decode cX12_travel 128 = .ok (.iload 7, 2) := by decide +kernel
theorem dX12_travel_130 : decode cX12_travel 130 = .ok (.baload, 1) := by decide +kernel
theorem dX12_travel_131 : decode cX12_travel 131 = .ok (.ifCond .eq 9, 3) := by decide +kernel
theorem dX12_travel_134 : decode cX12_travel 134 = .ok (.iinc 6 1, 3) := by decide +kernel
theorem dX12_travel_137 : decode cX12_travel 137 = .ok (.goto 14, 3) := by decide +kernel
theorem dX12_travel_140 : decode cX12_travel 140 = .ok (.aload_n 0, 1) := by decide +kernel
theorem dX12_travel_141 : decode cX12_travel 141 = .ok (.getfield 38, 3) := by decide +kernel
theorem dX12_travel_144 : decode cX12_travel 144 = .ok (.iload 7, 2) := by decide +kernel
theorem dX12_travel_146 : decode cX12_travel 146 = .ok (.iconst 1, 1) := by decide +kernel
theorem dX12_travel_147 : decode cX12_travel 147 = .ok (.iload 5, 2) := by decide +kernel
theorem dX12_travel_149 : decode cX12_travel 149 = .ok (.ishl, 1) := by decide +kernel
theorem dX12_travel_150 : decode cX12_travel 150 = .ok (.iastore, 1) := by decide +kernel
theorem dX12_travel_151 : decode cX12_travel 151 = .ok (.iinc 7 1, 3) := by decide +kernel
theorem dX12_travel_154 : decode cX12_travel 154 = .ok (.goto (-73), 3) := by decide +kernel
theorem dX12_travel_157 : decode cX12_travel 157 = .ok (.iload 6, 2) := by decide +kernel
theorem dX12_travel_159 : decode cX12_travel 159 = .ok (.ireturn, 1) := by decide +kernel
set_option maxRecDepth 20000 in
theorem ggX12_free_X12_isPerson : GoodIn wsX12_free wsX12_isPerson := goodIn_r _ [5, 6, 7, 8, 4, 9, 77, 78, 79, 80, 81, 82, 83, 84, 85, 86, 87, 88, 89, 90, 91, 92, 93, 94, 95, 96, 97, 98, 99, 100, 101, 102, 103, 104] (by decide +kernel) (by decide +kernel)
set_option maxRecDepth 20000 in
theorem gX12_free_X12_isPerson : GoodIn wsX12_free (wsV RX12 114 RX12 yX12_isPerson wsX12_isPerson) := goodIn_app (goodIn_of _ (by decide +kernel)) ggX12_free_X12_isPerson
set_option maxRecDepth 20000 in
theorem ggX12_free_X12_isLand : GoodIn wsX12_free wsX12_isLand := goodIn_r _ [12, 7, 8, 4, 9] (by decide +kernel) (by decide +kernel)
set_option maxRecDepth 20000 in
theorem gX12_free_X12_isLand : GoodIn wsX12_free (va_wsS RX12 97 yX12_isLand wsX12_isLand) := goodIn_app (goodIn_of _ (by decide +kernel)) ggX12_free_X12_isLand
set_option maxRecDepth 20000 in
theorem ggX12_free_X12_isSpan : GoodIn wsX12_free wsX12_isSpan := goodIn_r _ [15, 16, 17, 4, 18, 7, 8, 9] (by decide +kernel) (by decide +kernel)
set_option maxRecDepth 20000 in
theorem gX12_free_X12_isSpan : GoodIn wsX12_free (va_wsS RX12 117 yX12_isSpan wsX12_isSpan) := goodIn_app (goodIn_of _ (by decide +kernel)) ggX12_free_X12_isSpan
set_option maxRecDepth 20000 in
theorem ggX12_free_X12_travel : GoodIn wsX12_free wsX12_travel := goodIn_r _ [22, 23, 24, 25, 26, 27, 28, 29, 4, 30, 31, 32, 33, 34, 35, 36, 37, 38, 39, 40, 41, 42, 43, 44, 45, 46, 47, 48, 49, 50, 51, 52, 53, 54, 55, 56, 57, 58, 59, 60, 61, 62, 63, 64, 65, 66, 67, 68, 69, 70, 71, 72, 73, 74, 75, 76, 77, 78, 79, 80, 81, 82, 83, 84, 85, 86, 87, 88, 89, 90, 91, 92, 93, 94, 95, 96, 97, 98, 99, 100, 101, 102, 103, 104] (by decide +kernel) (by decide +kernel)
set_option maxRecDepth 20000 in
theorem gX12_free_X12_travel : GoodIn wsX12_free (wsV RX12 157 RX12 yX12_travel wsX12_travel) := goodIn_app (goodIn_of _ (by decide +kernel)) ggX12_free_X12_travel
theorem dX12_free_0 : decode cX12_free 0 = .ok (.aload_n 0, 1) := by decide +kernel
theorem dX12_free_1 : decode cX12_free 1 = .ok (.iload_n 1, 1) := by decide +kernel
theorem dX12_free_2 : decode cX12_free 2 = .ok (.invokevirtual 114, 3) := by decide +kernel
theorem dX12_free_5 : decode cX12_free 5 = .ok (.ifCond .eq 31, 3) := by decide +kernel
theorem dX12_free_8 : decode cX12_free 8 = .ok (.iload_n 2, 1) := by decide +kernel
theorem dX12_free_9 : decode cX12_free 9 = .ok (.invokestatic 97, 3) := by decide +kernel
theorem dX12_free_12 : decode cX12_free 12 = .ok (.ifCond .eq 24, 3) := by decide +kernel
theorem dX12_free_15 : decode cX12_free 15 = .ok (.iload_n 3, 1) := by decide +kernel
theorem dX12_free_16 : decode cX12_free 16 = .ok (.iload 4, 2) := by decide +kernel
theorem dX12_free_18 : decode cX12_free 18 = .ok (.invokestatic 117, 3) := by decide +kernel
theorem dX12_free_21 : decode cX12_free 21 = .ok (.ifCond .eq 15, 3) := by decide +kernel
theorem dX12_free_24 : decode cX12_free 24 = .ok (.aload_n 0, 1) := by decide +kernel
theorem dX12_free_25 : decode cX12_free 25 = .ok (.iload_n 1, 1) := by decide +kernel
theorem dX12_free_26 : decode cX12_free 26 = .ok (.iload_n 2, 1) := by decide +kernel
theorem dX12_free_27 : decode cX12_free 27 = .ok (.iload_n 3, 1) := by decide +kernel
theorem dX12_free_28 : decode cX12_free 28 = .ok (.iload 4, 2) := by decide +kernel
theorem dX12_free_30 : decode cX12_free 30 = .ok (.invokevirtual 157, 3) := by decide +kernel
theorem dX12_free_33 : decode cX12_free 33 = .ok (.goto 4, 3) := by decide +kernel
theorem dX12_free_36 : decode cX12_free 36 = .ok (.iconst (-1), 1) := by decide +kernel
theorem dX12_free_37 : decode cX12_free 37 = .ok (.ireturn, 1) := by decide +kernel
set_option maxRecDepth 20000 in
theorem ggX12_trip_X12_isPerson : GoodIn wsX12_trip wsX12_isPerson := goodIn_r _ [6, 7, 8, 9, 5, 10, 77, 78, 79, 80, 81, 82, 83, 84, 85, 86, 87, 88, 89, 90, 91, 92, 93, 94, 95, 96, 97, 98, 99, 100, 101, 102, 103, 104] (by decide +kernel) (by decide +kernel)
set_option maxRecDepth 20000 in
theorem gX12_trip_X12_isPerson : GoodIn wsX12_trip (wsV RX12 114 RX12 yX12_isPerson wsX12_isPerson) := goodIn_app (goodIn_of _ (by decide +kernel)) ggX12_trip_X12_isPerson
set_option maxRecDepth 20000 in
theorem ggX12_trip_X12_isLand : GoodIn wsX12_trip wsX12_isLand := goodIn_r _ [13, 8, 9, 5, 10] (by decide +kernel) (by decide +kernel)
set_option maxRecDepth 20000 in
theorem gX12_trip_X12_isLand : GoodIn wsX12_trip (va_wsS RX12 97 yX12_isLand wsX12_isLand) := goodIn_app (goodIn_of _ (by decide +kernel)) ggX12_trip_X12_isLand
set_option maxRecDepth 20000 in
theorem ggX12_trip_X12_isSpan : GoodIn wsX12_trip wsX12_isSpan := goodIn_r _ [16, 17, 18, 5, 19, 8, 9, 10] (by decide +kernel) (by decide +kernel)
set_option maxRecDepth 20000 in
theorem gX12_trip_X12_isSpan : GoodIn wsX12_trip (va_wsS RX12 117 yX12_isSpan wsX12_isSpan) := goodIn_app (goodIn_of _ (by decide +kernel)) ggX12_trip_X12_isSpan
set_option maxRecDepth 20000 in
theorem ggX12_trip_X12_travel : GoodIn wsX12_trip wsX12_travel := goodIn_r _ [23, 24, 25, 26, 1, 27, 28, 29, 5, 30, 31, 32, 33, 34, 35, 36, 37, 38, 39, 40, 41, 42, 43, 44, 45, 46, 47, 48, 49, 50, 51, 52, 53, 54, 55, 56, 57, 58, 59, 60, 61, 62, 63, 64, 65, 66, 67, 68, 69, 70, 71, 72, 73, 74, 75, 76, 77, 78, 79, 80, 81, 82, 83, 84, 85, 86, 87, 88, 89, 90, 91, 92, 93, 94, 95, 96, 97, 98, 99, 100, 101, 102, 103, 104] (by decide +kernel) (by decide +kernel)
set_option maxRecDepth 20000 in
theorem gX12_trip_X12_travel : GoodIn wsX12_trip (wsV RX12 157 RX12 yX12_travel wsX12_travel) := goodIn_app (goodIn_of _ (by decide +kernel)) ggX12_trip_X12_travel
theorem dX12_trip_0 : decode cX12_trip 0 = .ok (.aload_n 0, 1) := by decide +kernel
theorem dX12_trip_1 : decode cX12_trip 1 = .ok (.iload_n 1, 1) := by decide +kernel
theorem dX12_trip_2 : decode cX12_trip 2 = .ok (.invokevirtual 114, 3) := by decide +kernel
theorem dX12_trip_5 : decode cX12_trip 5 = .ok (.ifCond .eq 24, 3) := by decide +kernel
theorem dX12_trip_8 : decode cX12_trip 8 = .ok (.iload_n 2, 1) := by decide +kernel
theorem dX12_trip_9 : decode cX12_trip 9 = .ok (.invokestatic 97, 3) := by decide +kernel
theorem dX12_trip_12 : decode cX12_trip 12 = .ok (.ifCond .eq 17, 3) := by decide +kernel
theorem dX12_trip_15 : decode cX12_trip 15 = .ok (.iload_n 3, 1) := by decide +kernel
theorem dX12_trip_16 : decode cX12_trip 16 = .ok (.iload 4, 2) := by decide +kernel
theorem dX12_trip_18 : decode cX12_trip 18 = .ok (.invokestatic 117, 3) := by decide +kernel
theorem dX12_trip_21 : decode cX12_trip 21 = .ok (.ifCond .eq 8, 3) := by decide +kernel
theorem dX12_trip_24 : decode cX12_trip 24 = .ok (.iload 5, 2) := by decide +kernel
theorem dX12_trip_26 : decode cX12_trip 26 = .ok (.ifCond .ge 5, 3) := by decide +kernel
theorem dX12_trip_29 : decode cX12_trip 29 = .ok (.iconst (-1), 1) := by decide +kernel
theorem dX12_trip_30 : decode cX12_trip 30 = .ok (.ireturn, 1) := by decide +kernel
theorem dX12_trip_31 : decode cX12_trip 31 = .ok (.iload 5, 2) := by decide +kernel
theorem dX12_trip_33 : decode cX12_trip 33 = .ok (.aload_n 0, 1) := by decide +kernel
theorem dX12_trip_34 : decode cX12_trip 34 = .ok (.iload_n 1, 1) := by decide +kernel
theorem dX12_trip_35 : decode cX12_trip 35 = .ok (.iload_n 2, 1) := by decide +kernel
theorem dX12_trip_36 : decode cX12_trip 36 = .ok (.iload_n 3, 1) := by decide +kernel
theorem dX12_trip_37 : decode cX12_trip 37 = .ok (.iload 4, 2) := by decide +kernel
theorem dX12_trip_39 : decode cX12_trip 39 = .ok (.invokevirtual 157, 3) := by decide +kernel
theorem dX12_trip_42 : decode cX12_trip 42 = .ok (.if_icmp .lt 6, 3) := by decide +kernel
theorem dX12_trip_45 : decode cX12_trip 45 = .ok (.bipush (-2), 2) := by decide +kernel
theorem dX12_trip_47 : decode cX12_trip 47 = .ok (.ireturn, 1) := by decide +kernel
theorem dX12_trip_48 : decode cX12_trip 48 = .ok (.iload_n 3, 1) := by decide +kernel
theorem dX12_trip_49 : decode cX12_trip 49 = .ok (.istore 6, 2) := by decide +kernel
theorem dX12_trip_51 : decode cX12_trip 51 = .ok (.iload 5, 2) := by decide +kernel
theorem dX12_trip_53 : decode cX12_trip 53 = .ok (.istore 7, 2) := by decide +kernel
theorem dX12_trip_55 : decode cX12_trip 55 = .ok (.aload_n 0, 1) := by decide +kernel
theorem dX12_trip_56 : decode cX12_trip 56 = .ok (.getfield 62, 3) := by decide +kernel
theorem dX12_trip_59 : decode cX12_trip 59 = .ok (.iload 6, 2) := by decide +kernel
