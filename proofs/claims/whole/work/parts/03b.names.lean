theorem dX0_obeyHeading_1 : decode cX0_obeyHeading 1 = .ok (.getfield 7, 3) := by decide +kernel
theorem dX0_obeyHeading_4 : decode cX0_obeyHeading 4 = .ok (.iconst 0, 1) := by decide +kernel
theorem dX0_obeyHeading_5 : decode cX0_obeyHeading 5 = .ok (.iaload, 1) := by decide +kernel
theorem dX0_obeyHeading_6 : decode cX0_obeyHeading 6 = .ok (.iconst 2, 1) := by decide +kernel
theorem dX0_obeyHeading_7 : decode cX0_obeyHeading 7 = .ok (.if_icmp .ne 13, 3) := by decide +kernel
theorem dX0_obeyHeading_10 : decode cX0_obeyHeading 10 = .ok (.aload_n 0, 1) := by decide +kernel
theorem dX0_obeyHeading_11 : decode cX0_obeyHeading 11 = .ok (.iconst 0, 1) := by decide +kernel
theorem dX0_obeyHeading_12 : decode cX0_obeyHeading 12 = .ok (.iconst 1, 1) := by decide +kernel
theorem dX0_obeyHeading_13 : decode cX0_obeyHeading 13 = .ok (.iconst 0, 1) := by decide +kernel
theorem dX0_obeyHeading_14 : decode cX0_obeyHeading 14 = .ok (.invokevirtual 124, 3) := by decide +kernel
theorem dX0_obeyHeading_17 : decode cX0_obeyHeading 17 = .ok (.goto 9, 3) := by decide +kernel
theorem dX0_obeyHeading_20 : decode cX0_obeyHeading 20 = .ok (.aload_n 0, 1) := by decide +kernel
theorem dX0_obeyHeading_21 : decode cX0_obeyHeading 21 = .ok (.iconst 2, 1) := by decide +kernel
theorem dX0_obeyHeading_22 : decode cX0_obeyHeading 22 = .ok (.iconst 0, 1) := by decide +kernel
theorem dX0_obeyHeading_23 : decode cX0_obeyHeading 23 = .ok (.invokevirtual 158, 3) := by decide +kernel
theorem dX0_obeyHeading_26 : decode cX0_obeyHeading 26 = .ok (.return_, 1) := by decide +kernel
set_option maxRecDepth 20000 in
theorem ggX0_obeyNav_X0_change : GoodIn wsX0_obeyNav wsX0_change := goodIn_r _ [9, 1, 10, 11, 12, 13, 14, 8, 15, 16, 17, 18, 19, 20, 21, 22, 23, 24, 25, 26, 27] (by decide +kernel) (by decide +kernel)
set_option maxRecDepth 20000 in
theorem gX0_obeyNav_X0_change : GoodIn wsX0_obeyNav (wsV RX0 124 RX0 yX0_change wsX0_change) := goodIn_app (goodIn_of _ (by decide +kernel)) ggX0_obeyNav_X0_change
theorem dX0_obeyNav_0 : decode cX0_obeyNav 0 = .ok (.aload_n 0, 1) := by decide +kernel
theorem dX0_obeyNav_1 : decode cX0_obeyNav 1 = .ok (.getfield 7, 3) := by decide +kernel
theorem dX0_obeyNav_4 : decode cX0_obeyNav 4 = .ok (.iconst 0, 1) := by decide +kernel
theorem dX0_obeyNav_5 : decode cX0_obeyNav 5 = .ok (.iaload, 1) := by decide +kernel
theorem dX0_obeyNav_6 : decode cX0_obeyNav 6 = .ok (.iconst 4, 1) := by decide +kernel
theorem dX0_obeyNav_7 : decode cX0_obeyNav 7 = .ok (.if_icmp .ne 4, 3) := by decide +kernel
theorem dX0_obeyNav_10 : decode cX0_obeyNav 10 = .ok (.return_, 1) := by decide +kernel
theorem dX0_obeyNav_11 : decode cX0_obeyNav 11 = .ok (.aload_n 0, 1) := by decide +kernel
theorem dX0_obeyNav_12 : decode cX0_obeyNav 12 = .ok (.getfield 7, 3) := by decide +kernel
theorem dX0_obeyNav_15 : decode cX0_obeyNav 15 = .ok (.iconst 0, 1) := by decide +kernel
theorem dX0_obeyNav_16 : decode cX0_obeyNav 16 = .ok (.iaload, 1) := by decide +kernel
theorem dX0_obeyNav_17 : decode cX0_obeyNav 17 = .ok (.iconst 3, 1) := by decide +kernel
theorem dX0_obeyNav_18 : decode cX0_obeyNav 18 = .ok (.if_icmp .ne 13, 3) := by decide +kernel
theorem dX0_obeyNav_21 : decode cX0_obeyNav 21 = .ok (.aload_n 0, 1) := by decide +kernel
theorem dX0_obeyNav_22 : decode cX0_obeyNav 22 = .ok (.iconst 0, 1) := by decide +kernel
theorem dX0_obeyNav_23 : decode cX0_obeyNav 23 = .ok (.iconst 1, 1) := by decide +kernel
theorem dX0_obeyNav_24 : decode cX0_obeyNav 24 = .ok (.iconst 0, 1) := by decide +kernel
theorem dX0_obeyNav_25 : decode cX0_obeyNav 25 = .ok (.invokevirtual 124, 3) := by decide +kernel
theorem dX0_obeyNav_28 : decode cX0_obeyNav 28 = .ok (.goto 33, 3) := by decide +kernel
theorem dX0_obeyNav_31 : decode cX0_obeyNav 31 = .ok (.aload_n 0, 1) := by decide +kernel
theorem dX0_obeyNav_32 : decode cX0_obeyNav 32 = .ok (.getfield 90, 3) := by decide +kernel
theorem dX0_obeyNav_35 : decode cX0_obeyNav 35 = .ok (.ifCond .eq 11, 3) := by decide +kernel
theorem dX0_obeyNav_38 : decode cX0_obeyNav 38 = .ok (.aload_n 0, 1) := by decide +kernel
theorem dX0_obeyNav_39 : decode cX0_obeyNav 39 = .ok (.iconst 0, 1) := by decide +kernel
theorem dX0_obeyNav_40 : decode cX0_obeyNav 40 = .ok (.putfield 90, 3) := by decide +kernel
theorem dX0_obeyNav_43 : decode cX0_obeyNav 43 = .ok (.goto 18, 3) := by decide +kernel
theorem dX0_obeyNav_46 : decode cX0_obeyNav 46 = .ok (.aload_n 0, 1) := by decide +kernel
theorem dX0_obeyNav_47 : decode cX0_obeyNav 47 = .ok (.iconst 1, 1) := by decide +kernel
theorem dX0_obeyNav_48 : decode cX0_obeyNav 48 = .ok (.putfield 90, 3) := by decide +kernel
theorem dX0_obeyNav_51 : decode cX0_obeyNav 51 = .ok (.aload_n 0, 1) := by decide +kernel
theorem dX0_obeyNav_52 : decode cX0_obeyNav 52 = .ok (.iconst 0, 1) := by decide +kernel
theorem dX0_obeyNav_53 : decode cX0_obeyNav 53 = .ok (.putfield 93, 3) := by decide +kernel
theorem dX0_obeyNav_56 : decode cX0_obeyNav 56 = .ok (.aload_n 0, 1) := by decide +kernel
theorem dX0_obeyNav_57 : decode cX0_obeyNav 57 = .ok (.iconst 0, 1) := by decide +kernel
theorem dX0_obeyNav_58 : decode cX0_obeyNav 58 = .ok (.putfield 96, 3) := by decide +kernel
theorem dX0_obeyNav_61 : decode cX0_obeyNav 61 = .ok (.return_, 1) := by decide +kernel
set_option maxRecDepth 20000 in
theorem ggX0_obeyApproach_X0_leaveCourseFor : GoodIn wsX0_obeyApproach wsX0_leaveCourseFor := goodIn_r _ [9, 1, 2, 3, 10, 11, 12, 8, 13, 14, 15, 16, 17, 18, 19, 20, 21, 22, 23, 24, 25, 26, 27, 28, 29, 30, 31] (by decide +kernel) (by decide +kernel)
set_option maxRecDepth 20000 in
theorem gX0_obeyApproach_X0_leaveCourseFor : GoodIn wsX0_obeyApproach (wsV RX0 158 RX0 yX0_leaveCourseFor wsX0_leaveCourseFor) := goodIn_app (goodIn_of _ (by decide +kernel)) ggX0_obeyApproach_X0_leaveCourseFor
theorem dX0_obeyApproach_0 : decode cX0_obeyApproach 0 = .ok (.aload_n 0, 1) := by decide +kernel
theorem dX0_obeyApproach_1 : decode cX0_obeyApproach 1 = .ok (.getfield 7, 3) := by decide +kernel
theorem dX0_obeyApproach_4 : decode cX0_obeyApproach 4 = .ok (.iconst 0, 1) := by decide +kernel
theorem dX0_obeyApproach_5 : decode cX0_obeyApproach 5 = .ok (.iaload, 1) := by decide +kernel
theorem dX0_obeyApproach_6 : decode cX0_obeyApproach 6 = .ok (.iconst 4, 1) := by decide +kernel
theorem dX0_obeyApproach_7 : decode cX0_obeyApproach 7 = .ok (.if_icmp .ne 12, 3) := by decide +kernel
theorem dX0_obeyApproach_10 : decode cX0_obeyApproach 10 = .ok (.aload_n 0, 1) := by decide +kernel
theorem dX0_obeyApproach_11 : decode cX0_obeyApproach 11 = .ok (.iconst 1, 1) := by decide +kernel
theorem dX0_obeyApproach_12 : decode cX0_obeyApproach 12 = .ok (.iconst 0, 1) := by decide +kernel
theorem dX0_obeyApproach_13 : decode cX0_obeyApproach 13 = .ok (.invokevirtual 158, 3) := by decide +kernel
theorem dX0_obeyApproach_16 : decode cX0_obeyApproach 16 = .ok (.goto 38, 3) := by decide +kernel
theorem dX0_obeyApproach_19 : decode cX0_obeyApproach 19 = .ok (.aload_n 0, 1) := by decide +kernel
theorem dX0_obeyApproach_20 : decode cX0_obeyApproach 20 = .ok (.getfield 93, 3) := by decide +kernel
theorem dX0_obeyApproach_23 : decode cX0_obeyApproach 23 = .ok (.ifCond .eq 16, 3) := by decide +kernel
theorem dX0_obeyApproach_26 : decode cX0_obeyApproach 26 = .ok (.aload_n 0, 1) := by decide +kernel
theorem dX0_obeyApproach_27 : decode cX0_obeyApproach 27 = .ok (.iconst 0, 1) := by decide +kernel
theorem dX0_obeyApproach_28 : decode cX0_obeyApproach 28 = .ok (.putfield 93, 3) := by decide +kernel
theorem dX0_obeyApproach_31 : decode cX0_obeyApproach 31 = .ok (.aload_n 0, 1) := by decide +kernel
theorem dX0_obeyApproach_32 : decode cX0_obeyApproach 32 = .ok (.iconst 0, 1) := by decide +kernel
theorem dX0_obeyApproach_33 : decode cX0_obeyApproach 33 = .ok (.putfield 96, 3) := by decide +kernel
theorem dX0_obeyApproach_36 : decode cX0_obeyApproach 36 = .ok (.goto 18, 3) := by decide +kernel
theorem dX0_obeyApproach_39 : decode cX0_obeyApproach 39 = .ok (.aload_n 0, 1) := by decide +kernel
theorem dX0_obeyApproach_40 : decode cX0_obeyApproach 40 = .ok (.iconst 1, 1) := by decide +kernel
theorem dX0_obeyApproach_41 : decode cX0_obeyApproach 41 = .ok (.putfield 93, 3) := by decide +kernel
theorem dX0_obeyApproach_44 : decode cX0_obeyApproach 44 = .ok (.aload_n 0, 1) := by decide +kernel
theorem dX0_obeyApproach_45 : decode cX0_obeyApproach 45 = .ok (.iconst 1, 1) := by decide +kernel
theorem dX0_obeyApproach_46 : decode cX0_obeyApproach 46 = .ok (.putfield 96, 3) := by decide +kernel
theorem dX0_obeyApproach_49 : decode cX0_obeyApproach 49 = .ok (.aload_n 0, 1) := by decide +kernel
theorem dX0_obeyApproach_50 : decode cX0_obeyApproach 50 = .ok (.iconst 0, 1) := by decide +kernel
theorem dX0_obeyApproach_51 : decode cX0_obeyApproach 51 = .ok (.putfield 90, 3) := by decide +kernel
theorem dX0_obeyApproach_54 : decode cX0_obeyApproach 54 = .ok (.return_, 1) := by decide +kernel
set_option maxRecDepth 20000 in
theorem ggX0_obeyVertical_X0_change : GoodIn wsX0_obeyVertical wsX0_change := goodIn_r _ [6, 1, 7, 8, 9, 10, 11, 5, 12, 13, 14, 15, 16, 17, 18, 19, 20, 21, 22, 23, 24] (by decide +kernel) (by decide +kernel)
set_option maxRecDepth 20000 in
theorem gX0_obeyVertical_X0_change : GoodIn wsX0_obeyVertical (wsV RX0 124 RX0 yX0_change wsX0_change) := goodIn_app (goodIn_of _ (by decide +kernel)) ggX0_obeyVertical_X0_change
theorem dX0_obeyVertical_0 : decode cX0_obeyVertical 0 = .ok (.aload_n 0, 1) := by decide +kernel
theorem dX0_obeyVertical_1 : decode cX0_obeyVertical 1 = .ok (.getfield 7, 3) := by decide +kernel
theorem dX0_obeyVertical_4 : decode cX0_obeyVertical 4 = .ok (.iconst 1, 1) := by decide +kernel
theorem dX0_obeyVertical_5 : decode cX0_obeyVertical 5 = .ok (.iaload, 1) := by decide +kernel
theorem dX0_obeyVertical_6 : decode cX0_obeyVertical 6 = .ok (.bipush 6, 2) := by decide +kernel
theorem dX0_obeyVertical_8 : decode cX0_obeyVertical 8 = .ok (.if_icmp .ne 4, 3) := by decide +kernel
theorem dX0_obeyVertical_11 : decode cX0_obeyVertical 11 = .ok (.return_, 1) := by decide +kernel
theorem dX0_obeyVertical_12 : decode cX0_obeyVertical 12 = .ok (.aload_n 0, 1) := by decide +kernel
theorem dX0_obeyVertical_13 : decode cX0_obeyVertical 13 = .ok (.iconst 1, 1) := by decide +kernel
theorem dX0_obeyVertical_14 : decode cX0_obeyVertical 14 = .ok (.aload_n 0, 1) := by decide +kernel
theorem dX0_obeyVertical_15 : decode cX0_obeyVertical 15 = .ok (.getfield 7, 3) := by decide +kernel
theorem dX0_obeyVertical_18 : decode cX0_obeyVertical 18 = .ok (.iconst 1, 1) := by decide +kernel
theorem dX0_obeyVertical_19 : decode cX0_obeyVertical 19 = .ok (.iaload, 1) := by decide +kernel
theorem dX0_obeyVertical_20 : decode cX0_obeyVertical 20 = .ok (.iload_n 1, 1) := by decide +kernel
theorem dX0_obeyVertical_21 : decode cX0_obeyVertical 21 = .ok (.if_icmp .ne 7, 3) := by decide +kernel
theorem dX0_obeyVertical_24 : decode cX0_obeyVertical 24 = .ok (.iconst 1, 1) := by decide +kernel
theorem dX0_obeyVertical_25 : decode cX0_obeyVertical 25 = .ok (.goto 4, 3) := by decide +kernel
theorem dX0_obeyVertical_28 : decode cX0_obeyVertical 28 = .ok (.iload_n 1, 1) := by decide +kernel
theorem dX0_obeyVertical_29 : decode cX0_obeyVertical 29 = .ok (.iconst 0, 1) := by decide +kernel
theorem dX0_obeyVertical_30 : decode cX0_obeyVertical 30 = .ok (.invokevirtual 124, 3) := by decide +kernel
theorem dX0_obeyVertical_33 : decode cX0_obeyVertical 33 = .ok (.return_, 1) := by decide +kernel
set_option maxRecDepth 20000 in
theorem ggX0_obeyAround_X0_change : GoodIn wsX0_obeyAround wsX0_change := goodIn_r _ [5, 6, 7, 8, 9, 10, 11, 4, 12, 26, 27, 28, 29, 30, 31, 32, 33, 34, 35, 36, 37] (by decide +kernel) (by decide +kernel)
set_option maxRecDepth 20000 in
theorem gX0_obeyAround_X0_change : GoodIn wsX0_obeyAround (wsV RX0 124 RX0 yX0_change wsX0_change) := goodIn_app (goodIn_of _ (by decide +kernel)) ggX0_obeyAround_X0_change
set_option maxRecDepth 20000 in
theorem ggX0_obeyAround_X0_disarmAll : GoodIn wsX0_obeyAround wsX0_disarmAll := goodIn_r _ [16, 17, 18, 19, 26, 27, 28, 29, 30, 31, 32, 33, 34, 35, 36, 37] (by decide +kernel) (by decide +kernel)
set_option maxRecDepth 20000 in
theorem gX0_obeyAround_X0_disarmAll : GoodIn wsX0_obeyAround (wsV RX0 128 RX0 yX0_disarmAll wsX0_disarmAll) := goodIn_app (goodIn_of _ (by decide +kernel)) ggX0_obeyAround_X0_disarmAll
set_option maxRecDepth 20000 in
theorem ggX0_obeyAround_X0_disengageWithWarning : GoodIn wsX0_obeyAround wsX0_disengageWithWarning := goodIn_r _ [23, 24, 25, 26, 27, 28, 29, 30, 31, 32, 33, 34, 35, 36, 37] (by decide +kernel) (by decide +kernel)
set_option maxRecDepth 20000 in
theorem gX0_obeyAround_X0_disengageWithWarning : GoodIn wsX0_obeyAround (wsV RX0 80 RX0 yX0_disengageWithWarning wsX0_disengageWithWarning) := goodIn_app (goodIn_of _ (by decide +kernel)) ggX0_obeyAround_X0_disengageWithWarning
theorem dX0_obeyAround_0 : decode cX0_obeyAround 0 = .ok (.aload_n 0, 1) := by decide +kernel
theorem dX0_obeyAround_1 : decode cX0_obeyAround 1 = .ok (.iconst 0, 1) := by decide +kernel
theorem dX0_obeyAround_2 : decode cX0_obeyAround 2 = .ok (.iconst 5, 1) := by decide +kernel
theorem dX0_obeyAround_3 : decode cX0_obeyAround 3 = .ok (.iconst 0, 1) := by decide +kernel
theorem dX0_obeyAround_4 : decode cX0_obeyAround 4 = .ok (.invokevirtual 124, 3) := by decide +kernel
theorem dX0_obeyAround_7 : decode cX0_obeyAround 7 = .ok (.aload_n 0, 1) := by decide +kernel
theorem dX0_obeyAround_8 : decode cX0_obeyAround 8 = .ok (.iconst 1, 1) := by decide +kernel
theorem dX0_obeyAround_9 : decode cX0_obeyAround 9 = .ok (.bipush 7, 2) := by decide +kernel
theorem dX0_obeyAround_11 : decode cX0_obeyAround 11 = .ok (.iconst 0, 1) := by decide +kernel
theorem dX0_obeyAround_12 : decode cX0_obeyAround 12 = .ok (.invokevirtual 124, 3) := by decide +kernel
theorem dX0_obeyAround_15 : decode cX0_obeyAround 15 = .ok (.aload_n 0, 1) := by decide +kernel
theorem dX0_obeyAround_16 : decode cX0_obeyAround 16 = .ok (.invokevirtual 128, 3) := by decide +kernel
theorem dX0_obeyAround_19 : decode cX0_obeyAround 19 = .ok (.aload_n 0, 1) := by decide +kernel
theorem dX0_obeyAround_20 : decode cX0_obeyAround 20 = .ok (.invokevirtual 80, 3) := by decide +kernel
theorem dX0_obeyAround_23 : decode cX0_obeyAround 23 = .ok (.return_, 1) := by decide +kernel
set_option maxRecDepth 20000 in
theorem ggX0_obeySync_X0_change : GoodIn wsX0_obeySync wsX0_change := goodIn_r _ [6, 1, 7, 8, 9, 10, 11, 5, 12, 13, 14, 15, 16, 17, 18, 19, 20, 21, 22, 23, 24] (by decide +kernel) (by decide +kernel)
set_option maxRecDepth 20000 in
theorem gX0_obeySync_X0_change : GoodIn wsX0_obeySync (wsV RX0 124 RX0 yX0_change wsX0_change) := goodIn_app (goodIn_of _ (by decide +kernel)) ggX0_obeySync_X0_change
theorem dX0_obeySync_0 : decode cX0_obeySync 0 = .ok (.aload_n 0, 1) := by decide +kernel
theorem dX0_obeySync_1 : decode cX0_obeySync 1 = .ok (.getfield 7, 3) := by decide +kernel
theorem dX0_obeySync_4 : decode cX0_obeySync 4 = .ok (.iconst 0, 1) := by decide +kernel
theorem dX0_obeySync_5 : decode cX0_obeySync 5 = .ok (.iaload, 1) := by decide +kernel
theorem dX0_obeySync_6 : decode cX0_obeySync 6 = .ok (.iconst 5, 1) := by decide +kernel
theorem dX0_obeySync_7 : decode cX0_obeySync 7 = .ok (.if_icmp .ne 10, 3) := by decide +kernel
theorem dX0_obeySync_10 : decode cX0_obeySync 10 = .ok (.aload_n 0, 1) := by decide +kernel
theorem dX0_obeySync_11 : decode cX0_obeySync 11 = .ok (.iconst 0, 1) := by decide +kernel
theorem dX0_obeySync_12 : decode cX0_obeySync 12 = .ok (.iconst 1, 1) := by decide +kernel
theorem dX0_obeySync_13 : decode cX0_obeySync 13 = .ok (.iconst 0, 1) := by decide +kernel
theorem dX0_obeySync_14 : decode cX0_obeySync 14 = .ok (.invokevirtual 124, 3) := by decide +kernel
theorem dX0_obeySync_17 : decode cX0_obeySync 17 = .ok (.aload_n 0, 1) := by decide +kernel
theorem dX0_obeySync_18 : decode cX0_obeySync 18 = .ok (.getfield 7, 3) := by decide +kernel
theorem dX0_obeySync_21 : decode cX0_obeySync 21 = .ok (.iconst 1, 1) := by decide +kernel
theorem dX0_obeySync_22 : decode cX0_obeySync 22 = .ok (.iaload, 1) := by decide +kernel
theorem dX0_obeySync_23 : decode cX0_obeySync 23 = .ok (.bipush 7, 2) := by decide +kernel
theorem dX0_obeySync_25 : decode cX0_obeySync 25 = .ok (.if_icmp .ne 10, 3) := by decide +kernel
theorem dX0_obeySync_28 : decode cX0_obeySync 28 = .ok (.aload_n 0, 1) := by decide +kernel
theorem dX0_obeySync_29 : decode cX0_obeySync 29 = .ok (.iconst 1, 1) := by decide +kernel
theorem dX0_obeySync_30 : decode cX0_obeySync 30 = .ok (.iconst 1, 1) := by decide +kernel
theorem dX0_obeySync_31 : decode cX0_obeySync 31 = .ok (.iconst 0, 1) := by decide +kernel
theorem dX0_obeySync_32 : decode cX0_obeySync 32 = .ok (.invokevirtual 124, 3) := by decide +kernel
theorem dX0_obeySync_35 : decode cX0_obeySync 35 = .ok (.return_, 1) := by decide +kernel
set_option maxRecDepth 20000 in
theorem ggX0_obeyTransfer_X0_isOn : GoodIn wsX0_obeyTransfer wsX0_isOn := goodIn_r _ [7, 8, 30, 31, 32, 33, 34, 35, 36, 37, 38, 39, 40, 41] (by decide +kernel) (by decide +kernel)
set_option maxRecDepth 20000 in
theorem gX0_obeyTransfer_X0_isOn : GoodIn wsX0_obeyTransfer (wsV RX0 104 RX0 yX0_isOn wsX0_isOn) := goodIn_app (goodIn_of _ (by decide +kernel)) ggX0_obeyTransfer_X0_isOn
set_option maxRecDepth 20000 in
theorem ggX0_obeyTransfer_X0_goToBase : GoodIn wsX0_obeyTransfer wsX0_goToBase := goodIn_r _ [12, 13, 14, 15, 6, 16, 8, 17, 18, 19, 20, 21, 22, 23, 24, 25, 26, 27, 28, 29, 30, 31, 32, 33, 34, 35, 36, 37, 38, 39, 40, 41] (by decide +kernel) (by decide +kernel)
set_option maxRecDepth 20000 in
theorem gX0_obeyTransfer_X0_goToBase : GoodIn wsX0_obeyTransfer (wsV RX0 131 RX0 yX0_goToBase wsX0_goToBase) := goodIn_app (goodIn_of _ (by decide +kernel)) ggX0_obeyTransfer_X0_goToBase
theorem dX0_obeyTransfer_0 : decode cX0_obeyTransfer 0 = .ok (.iconst 1, 1) := by decide +kernel
theorem dX0_obeyTransfer_1 : decode cX0_obeyTransfer 1 = .ok (.aload_n 0, 1) := by decide +kernel
theorem dX0_obeyTransfer_2 : decode cX0_obeyTransfer 2 = .ok (.getfield 111, 3) := by decide +kernel
theorem dX0_obeyTransfer_5 : decode cX0_obeyTransfer 5 = .ok (.isub, 1) := by decide +kernel
theorem dX0_obeyTransfer_6 : decode cX0_obeyTransfer 6 = .ok (.istore_n 1, 1) := by decide +kernel
theorem dX0_obeyTransfer_7 : decode cX0_obeyTransfer 7 = .ok (.aload_n 0, 1) := by decide +kernel
theorem dX0_obeyTransfer_8 : decode cX0_obeyTransfer 8 = .ok (.getfield 19, 3) := by decide +kernel
theorem dX0_obeyTransfer_11 : decode cX0_obeyTransfer 11 = .ok (.iload_n 1, 1) := by decide +kernel
theorem dX0_obeyTransfer_12 : decode cX0_obeyTransfer 12 = .ok (.baload, 1) := by decide +kernel
theorem dX0_obeyTransfer_13 : decode cX0_obeyTransfer 13 = .ok (.ifCond .ne 4, 3) := by decide +kernel
theorem dX0_obeyTransfer_16 : decode cX0_obeyTransfer 16 = .ok (.return_, 1) := by decide +kernel
theorem dX0_obeyTransfer_17 : decode cX0_obeyTransfer 17 = .ok (.aload_n 0, 1) := by decide +kernel
theorem dX0_obeyTransfer_18 : decode cX0_obeyTransfer 18 = .ok (.iload_n 1, 1) := by decide +kernel
theorem dX0_obeyTransfer_19 : decode cX0_obeyTransfer 19 = .ok (.putfield 111, 3) := by decide +kernel
theorem dX0_obeyTransfer_22 : decode cX0_obeyTransfer 22 = .ok (.aload_n 0, 1) := by decide +kernel
theorem dX0_obeyTransfer_23 : decode cX0_obeyTransfer 23 = .ok (.invokevirtual 104, 3) := by decide +kernel
theorem dX0_obeyTransfer_26 : decode cX0_obeyTransfer 26 = .ok (.ifCond .eq 7, 3) := by decide +kernel
theorem dX0_obeyTransfer_29 : decode cX0_obeyTransfer 29 = .ok (.aload_n 0, 1) := by decide +kernel
theorem dX0_obeyTransfer_30 : decode cX0_obeyTransfer 30 = .ok (.invokevirtual 131, 3) := by decide +kernel
theorem dX0_obeyTransfer_33 : decode cX0_obeyTransfer 33 = .ok (.return_, 1) := by decide +kernel
set_option maxRecDepth 20000 in
theorem ggX0_obeyDirector_X0_isOn : GoodIn wsX0_obeyDirector wsX0_isOn := goodIn_r _ [6, 7, 47, 48, 49, 50, 51, 52, 53, 54, 55, 56, 57, 58] (by decide +kernel) (by decide +kernel)
set_option maxRecDepth 20000 in
theorem gX0_obeyDirector_X0_isOn : GoodIn wsX0_obeyDirector (wsV RX0 104 RX0 yX0_isOn wsX0_isOn) := goodIn_app (goodIn_of _ (by decide +kernel)) ggX0_obeyDirector_X0_isOn
set_option maxRecDepth 20000 in
theorem ggX0_obeyDirector_X0_isAnyChannelSound : GoodIn wsX0_obeyDirector wsX0_isAnyChannelSound := goodIn_r _ [11, 12, 47, 48, 49, 50, 51, 52, 53, 54, 55, 56, 57, 58] (by decide +kernel) (by decide +kernel)
set_option maxRecDepth 20000 in
theorem gX0_obeyDirector_X0_isAnyChannelSound : GoodIn wsX0_obeyDirector (wsV RX0 67 RX0 yX0_isAnyChannelSound wsX0_isAnyChannelSound) := goodIn_app (goodIn_of _ (by decide +kernel)) ggX0_obeyDirector_X0_isAnyChannelSound
set_option maxRecDepth 20000 in
theorem ggX0_obeyDirector_X0_goToBase : GoodIn wsX0_obeyDirector wsX0_goToBase := goodIn_r _ [16, 17, 18, 19, 5, 20, 7, 21, 22, 23, 24, 25, 26, 27, 28, 29, 30, 31, 32, 33, 47, 48, 49, 50, 51, 52, 53, 54, 55, 56, 57, 58] (by decide +kernel) (by decide +kernel)
set_option maxRecDepth 20000 in
theorem gX0_obeyDirector_X0_goToBase : GoodIn wsX0_obeyDirector (wsV RX0 131 RX0 yX0_goToBase wsX0_goToBase) := goodIn_app (goodIn_of _ (by decide +kernel)) ggX0_obeyDirector_X0_goToBase
set_option maxRecDepth 20000 in
theorem ggX0_obeyDirector_X0_turnOff : GoodIn wsX0_obeyDirector wsX0_turnOff := goodIn_r _ [37, 17, 18, 19, 5, 20, 7, 21, 22, 23, 24, 25, 26, 27, 28, 29, 30, 31, 32, 33, 38, 39, 40, 41, 1, 42, 43, 44, 45, 46, 47, 48, 49, 50, 51, 52, 53, 54, 55, 56, 57, 58] (by decide +kernel) (by decide +kernel)
set_option maxRecDepth 20000 in
theorem gX0_obeyDirector_X0_turnOff : GoodIn wsX0_obeyDirector (wsV RX0 162 RX0 yX0_turnOff wsX0_turnOff) := goodIn_app (goodIn_of _ (by decide +kernel)) ggX0_obeyDirector_X0_turnOff
theorem dX0_obeyDirector_0 : decode cX0_obeyDirector 0 = .ok (.aload_n 0, 1) := by decide +kernel
theorem dX0_obeyDirector_1 : decode cX0_obeyDirector 1 = .ok (.invokevirtual 104, 3) := by decide +kernel
theorem dX0_obeyDirector_4 : decode cX0_obeyDirector 4 = .ok (.ifCond .ne 17, 3) := by decide +kernel
theorem dX0_obeyDirector_7 : decode cX0_obeyDirector 7 = .ok (.aload_n 0, 1) := by decide +kernel
theorem dX0_obeyDirector_8 : decode cX0_obeyDirector 8 = .ok (.invokevirtual 67, 3) := by decide +kernel
theorem dX0_obeyDirector_11 : decode cX0_obeyDirector 11 = .ok (.ifCond .eq 22, 3) := by decide +kernel
theorem dX0_obeyDirector_14 : decode cX0_obeyDirector 14 = .ok (.aload_n 0, 1) := by decide +kernel
theorem dX0_obeyDirector_15 : decode cX0_obeyDirector 15 = .ok (.invokevirtual 131, 3) := by decide +kernel
theorem dX0_obeyDirector_18 : decode cX0_obeyDirector 18 = .ok (.goto 15, 3) := by decide +kernel
theorem dX0_obeyDirector_21 : decode cX0_obeyDirector 21 = .ok (.aload_n 0, 1) := by decide +kernel
theorem dX0_obeyDirector_22 : decode cX0_obeyDirector 22 = .ok (.getfield 63, 3) := by decide +kernel
theorem dX0_obeyDirector_25 : decode cX0_obeyDirector 25 = .ok (.ifCond .ne 8, 3) := by decide +kernel
theorem dX0_obeyDirector_28 : decode cX0_obeyDirector 28 = .ok (.aload_n 0, 1) := by decide +kernel
theorem dX0_obeyDirector_29 : decode cX0_obeyDirector 29 = .ok (.iconst 0, 1) := by decide +kernel
theorem dX0_obeyDirector_30 : decode cX0_obeyDirector 30 = .ok (.invokevirtual 162, 3) := by decide +kernel
theorem dX0_obeyDirector_33 : decode cX0_obeyDirector 33 = .ok (.return_, 1) := by decide +kernel
set_option maxRecDepth 20000 in
theorem ggX0_settle_X0_comesAboutByItself : GoodIn wsX0_settle wsX0_comesAboutByItself := goodIn_r _ [5, 6, 7, 8, 4, 9, 10, 11, 12, 13, 14, 15, 16, 17, 18, 19, 20, 21, 22, 23, 24, 25, 26, 27, 28, 29, 30, 31, 32, 33, 34, 35, 36, 37, 38, 39, 40, 41, 42, 43, 44, 45, 46, 47, 48, 49, 50, 51, 52, 53, 54, 55, 56, 57, 58, 59, 60, 61, 62, 63, 64, 65, 66, 67, 68, 69, 70, 71, 72, 73, 74, 75, 76, 77, 78, 79, 80, 81, 82, 83, 84, 85, 86, 87, 88, 89, 90, 91, 92, 93, 94, 95, 96, 97, 98, 99, 100, 101, 102, 103, 104, 105, 106, 107, 108, 109, 110, 111, 112, 113, 114, 115, 116, 117, 118, 119, 120, 121, 122, 123, 124] (by decide +kernel) (by decide +kernel)
set_option maxRecDepth 20000 in
theorem gX0_settle_X0_comesAboutByItself : GoodIn wsX0_settle (wsV RX0 166 RX0 yX0_comesAboutByItself wsX0_comesAboutByItself) := goodIn_app (goodIn_of _ (by decide +kernel)) ggX0_settle_X0_comesAboutByItself
theorem dX0_settle_0 : decode cX0_settle 0 = .ok (.iconst 0, 1) := by decide +kernel
theorem dX0_settle_1 : decode cX0_settle 1 = .ok (.istore_n 1, 1) := by decide +kernel
theorem dX0_settle_2 : decode cX0_settle 2 = .ok (.iload_n 1, 1) := by decide +kernel
theorem dX0_settle_3 : decode cX0_settle 3 = .ok (.sipush 1000, 3) := by decide +kernel
theorem dX0_settle_6 : decode cX0_settle 6 = .ok (.if_icmp .ge 16, 3) := by decide +kernel
theorem dX0_settle_9 : decode cX0_settle 9 = .ok (.aload_n 0, 1) := by decide +kernel
theorem dX0_settle_10 : decode cX0_settle 10 = .ok (.invokevirtual 166, 3) := by decide +kernel
theorem dX0_settle_13 : decode cX0_settle 13 = .ok (.ifCond .eq 9, 3) := by decide +kernel
theorem dX0_settle_16 : decode cX0_settle 16 = .ok (.iinc 1 1, 3) := by decide +kernel
theorem dX0_settle_19 : decode cX0_settle 19 = .ok (.goto (-17), 3) := by decide +kernel
theorem dX0_settle_22 : decode cX0_settle 22 = .ok (.iload_n 1, 1) := by decide +kernel
theorem dX0_settle_23 : decode cX0_settle 23 = .ok (.ireturn, 1) := by decide +kernel
set_option maxRecDepth 20000 in
theorem ggX0_comesAboutByItself_X0_leaderFails : GoodIn wsX0_comesAboutByItself wsX0_leaderFails := goodIn_r _ [5, 6, 7, 8, 9, 10, 4, 11, 12, 13, 14, 15, 16, 17, 18, 19, 20, 21, 22, 23, 24, 25, 26, 27, 28, 29, 30, 31, 32, 33, 34, 35, 36, 37, 38, 39, 40, 41, 42, 43, 109, 110, 111, 112, 113, 114, 115, 116, 117, 118, 119, 120] (by decide +kernel) (by decide +kernel)
set_option maxRecDepth 20000 in
theorem gX0_comesAboutByItself_X0_leaderFails : GoodIn wsX0_comesAboutByItself (wsV RX0 169 RX0 yX0_leaderFails wsX0_leaderFails) := goodIn_app (goodIn_of _ (by decide +kernel)) ggX0_comesAboutByItself_X0_leaderFails
set_option maxRecDepth 20000 in
theorem ggX0_comesAboutByItself_X0_courseIsLost : GoodIn wsX0_comesAboutByItself wsX0_courseIsLost := goodIn_r _ [47, 12, 48, 49, 50, 51, 4, 52, 32, 33, 17, 18, 19, 20, 21, 22, 23, 24, 25, 26, 109, 110, 111, 112, 113, 114, 115, 116, 117, 118, 119, 120] (by decide +kernel) (by decide +kernel)
set_option maxRecDepth 20000 in
theorem gX0_comesAboutByItself_X0_courseIsLost : GoodIn wsX0_comesAboutByItself (wsV RX0 172 RX0 yX0_courseIsLost wsX0_courseIsLost) := goodIn_app (goodIn_of _ (by decide +kernel)) ggX0_comesAboutByItself_X0_courseIsLost
set_option maxRecDepth 20000 in
theorem ggX0_comesAboutByItself_X0_pathIsLost : GoodIn wsX0_comesAboutByItself wsX0_pathIsLost := goodIn_r _ [56, 48, 12, 17, 18, 19, 4, 20, 21, 22, 23, 24, 25, 26, 109, 110, 111, 112, 113, 114, 115, 116, 117, 118, 119, 120] (by decide +kernel) (by decide +kernel)
set_option maxRecDepth 20000 in
theorem gX0_comesAboutByItself_X0_pathIsLost : GoodIn wsX0_comesAboutByItself (wsV RX0 175 RX0 yX0_pathIsLost wsX0_pathIsLost) := goodIn_app (goodIn_of _ (by decide +kernel)) ggX0_comesAboutByItself_X0_pathIsLost
set_option maxRecDepth 20000 in
theorem ggX0_comesAboutByItself_X0_navIsReached : GoodIn wsX0_comesAboutByItself wsX0_navIsReached := goodIn_r _ [60, 31, 61, 62, 63, 4, 64, 48, 65, 66, 67, 68, 17, 18, 19, 20, 12, 21, 22, 23, 24, 25, 26, 109, 110, 111, 112, 113, 114, 115, 116, 117, 118, 119, 120] (by decide +kernel) (by decide +kernel)
set_option maxRecDepth 20000 in
theorem gX0_comesAboutByItself_X0_navIsReached : GoodIn wsX0_comesAboutByItself (wsV RX0 178 RX0 yX0_navIsReached wsX0_navIsReached) := goodIn_app (goodIn_of _ (by decide +kernel)) ggX0_comesAboutByItself_X0_navIsReached
set_option maxRecDepth 20000 in
theorem ggX0_comesAboutByItself_X0_approachIsReached : GoodIn wsX0_comesAboutByItself wsX0_approachIsReached := goodIn_r _ [72, 32, 61, 62, 63, 4, 64, 48, 65, 66, 67, 68, 17, 18, 19, 20, 12, 21, 22, 23, 24, 25, 26, 109, 110, 111, 112, 113, 114, 115, 116, 117, 118, 119, 120] (by decide +kernel) (by decide +kernel)
set_option maxRecDepth 20000 in
theorem gX0_comesAboutByItself_X0_approachIsReached : GoodIn wsX0_comesAboutByItself (wsV RX0 181 RX0 yX0_approachIsReached wsX0_approachIsReached) := goodIn_app (goodIn_of _ (by decide +kernel)) ggX0_comesAboutByItself_X0_approachIsReached
set_option maxRecDepth 20000 in
theorem ggX0_comesAboutByItself_X0_glideIsReached : GoodIn wsX0_comesAboutByItself wsX0_glideIsReached := goodIn_r _ [76, 33, 12, 77, 78, 79, 4, 80, 48, 65, 66, 67, 68, 17, 18, 19, 20, 21, 22, 23, 24, 25, 26, 109, 110, 111, 112, 113, 114, 115, 116, 117, 118, 119, 120] (by decide +kernel) (by decide +kernel)
set_option maxRecDepth 20000 in
theorem gX0_comesAboutByItself_X0_glideIsReached : GoodIn wsX0_comesAboutByItself (wsV RX0 184 RX0 yX0_glideIsReached wsX0_glideIsReached) := goodIn_app (goodIn_of _ (by decide +kernel)) ggX0_comesAboutByItself_X0_glideIsReached
set_option maxRecDepth 20000 in
theorem ggX0_comesAboutByItself_X0_heightComesNear : GoodIn wsX0_comesAboutByItself wsX0_heightComesNear := goodIn_r _ [84, 85, 86, 87, 4, 88, 12, 89, 90, 91, 92, 48, 65, 66, 67, 68, 17, 18, 19, 20, 21, 22, 23, 24, 25, 26, 109, 110, 111, 112, 113, 114, 115, 116, 117, 118, 119, 120] (by decide +kernel) (by decide +kernel)
set_option maxRecDepth 20000 in
theorem gX0_comesAboutByItself_X0_heightComesNear : GoodIn wsX0_comesAboutByItself (wsV RX0 187 RX0 yX0_heightComesNear wsX0_heightComesNear) := goodIn_app (goodIn_of _ (by decide +kernel)) ggX0_comesAboutByItself_X0_heightComesNear
set_option maxRecDepth 20000 in
theorem ggX0_comesAboutByItself_X0_heightIsReached : GoodIn wsX0_comesAboutByItself wsX0_heightIsReached := goodIn_r _ [96, 12, 89, 90, 91, 4, 92, 48, 65, 66, 67, 68, 17, 18, 19, 20, 21, 22, 23, 24, 25, 26, 109, 110, 111, 112, 113, 114, 115, 116, 117, 118, 119, 120] (by decide +kernel) (by decide +kernel)
set_option maxRecDepth 20000 in
theorem gX0_comesAboutByItself_X0_heightIsReached : GoodIn wsX0_comesAboutByItself (wsV RX0 190 RX0 yX0_heightIsReached wsX0_heightIsReached) := goodIn_app (goodIn_of _ (by decide +kernel)) ggX0_comesAboutByItself_X0_heightIsReached
set_option maxRecDepth 20000 in
theorem ggX0_comesAboutByItself_X0_heightIsLost : GoodIn wsX0_comesAboutByItself wsX0_heightIsLost := goodIn_r _ [100, 12, 89, 90, 91, 4, 92, 48, 65, 66, 67, 68, 17, 18, 19, 20, 21, 22, 23, 24, 25, 26, 109, 110, 111, 112, 113, 114, 115, 116, 117, 118, 119, 120] (by decide +kernel) (by decide +kernel)
set_option maxRecDepth 20000 in
theorem gX0_comesAboutByItself_X0_heightIsLost : GoodIn wsX0_comesAboutByItself (wsV RX0 193 RX0 yX0_heightIsLost wsX0_heightIsLost) := goodIn_app (goodIn_of _ (by decide +kernel)) ggX0_comesAboutByItself_X0_heightIsLost
set_option maxRecDepth 20000 in
theorem ggX0_comesAboutByItself_X0_climbIsTooFast : GoodIn wsX0_comesAboutByItself wsX0_climbIsTooFast := goodIn_r _ [104, 12, 105, 106, 107, 4, 108, 48, 17, 18, 19, 20, 21, 22, 23, 24, 25, 26, 109, 110, 111, 112, 113, 114, 115, 116, 117, 118, 119, 120] (by decide +kernel) (by decide +kernel)
set_option maxRecDepth 20000 in
theorem gX0_comesAboutByItself_X0_climbIsTooFast : GoodIn wsX0_comesAboutByItself (wsV RX0 196 RX0 yX0_climbIsTooFast wsX0_climbIsTooFast) := goodIn_app (goodIn_of _ (by decide +kernel)) ggX0_comesAboutByItself_X0_climbIsTooFast
theorem dX0_comesAboutByItself_0 : decode cX0_comesAboutByItself 0 = .ok (.aload_n 0, 1) := by decide +kernel
theorem dX0_comesAboutByItself_1 : decode cX0_comesAboutByItself 1 = .ok (.invokevirtual 169, 3) := by decide +kernel
theorem dX0_comesAboutByItself_4 : decode cX0_comesAboutByItself 4 = .ok (.ifCond .ne 66, 3) := by decide +kernel
theorem dX0_comesAboutByItself_7 : decode cX0_comesAboutByItself 7 = .ok (.aload_n 0, 1) := by decide +kernel
theorem dX0_comesAboutByItself_8 : decode cX0_comesAboutByItself 8 = .ok (.invokevirtual 172, 3) := by decide +kernel
theorem dX0_comesAboutByItself_11 : decode cX0_comesAboutByItself 11 = .ok (.ifCond .ne 59, 3) := by decide +kernel
theorem dX0_comesAboutByItself_14 : decode cX0_comesAboutByItself 14 = .ok (.aload_n 0, 1) := by decide +kernel
theorem dX0_comesAboutByItself_15 : decode cX0_comesAboutByItself 15 = .ok (.invokevirtual 175, 3) := by decide +kernel
theorem dX0_comesAboutByItself_18 : decode cX0_comesAboutByItself 18 = .ok (.ifCond .ne 52, 3) := by decide +kernel
theorem dX0_comesAboutByItself_21 : decode cX0_comesAboutByItself 21 = .ok (.aload_n 0, 1) := by decide +kernel
theorem dX0_comesAboutByItself_22 : decode cX0_comesAboutByItself 22 = .ok (.invokevirtual 178, 3) := by decide +kernel
theorem dX0_comesAboutByItself_25 : decode cX0_comesAboutByItself 25 = .ok (.ifCond .ne 45, 3) := by decide +kernel
theorem dX0_comesAboutByItself_28 : decode cX0_comesAboutByItself 28 = .ok (.aload_n 0, 1) := by decide +kernel
theorem dX0_comesAboutByItself_29 : decode cX0_comesAboutByItself 29 = .ok (.invokevirtual 181, 3) := by decide +kernel
theorem dX0_comesAboutByItself_32 : decode cX0_comesAboutByItself 32 = .ok (.ifCond .ne 38, 3) := by decide +kernel
theorem dX0_comesAboutByItself_35 : decode cX0_comesAboutByItself 35 = .ok (.aload_n 0, 1) := by decide +kernel
theorem dX0_comesAboutByItself_36 : decode cX0_comesAboutByItself 36 = .ok (.invokevirtual 184, 3) := by decide +kernel
theorem dX0_comesAboutByItself_39 : decode cX0_comesAboutByItself 39 = .ok (.ifCond .ne 31, 3) := by decide +kernel
theorem dX0_comesAboutByItself_42 : decode cX0_comesAboutByItself 42 = .ok (.aload_n 0, 1) := by decide +kernel
theorem dX0_comesAboutByItself_43 : decode cX0_comesAboutByItself 43 = .ok (.invokevirtual 187, 3) := by decide +kernel
theorem dX0_comesAboutByItself_46 : decode cX0_comesAboutByItself 46 = .ok (.ifCond .ne 24, 3) := by decide +kernel
theorem dX0_comesAboutByItself_49 : decode cX0_comesAboutByItself 49 = .ok (.aload_n 0, 1) := by decide +kernel
theorem dX0_comesAboutByItself_50 : decode cX0_comesAboutByItself 50 = .ok (.invokevirtual 190, 3) := by decide +kernel
theorem dX0_comesAboutByItself_53 : decode cX0_comesAboutByItself 53 = .ok (.ifCond .ne 17, 3) := by decide +kernel
theorem dX0_comesAboutByItself_56 : decode cX0_comesAboutByItself 56 = .ok (.aload_n 0, 1) := by decide +kernel
theorem dX0_comesAboutByItself_57 : decode cX0_comesAboutByItself 57 = .ok (.invokevirtual 193, 3) := by decide +kernel
theorem dX0_comesAboutByItself_60 : decode cX0_comesAboutByItself 60 = .ok (.ifCond .ne 10, 3) := by decide +kernel
theorem dX0_comesAboutByItself_63 : decode cX0_comesAboutByItself 63 = .ok (.aload_n 0, 1) := by decide +kernel
theorem dX0_comesAboutByItself_64 : decode cX0_comesAboutByItself 64 = .ok (.invokevirtual 196, 3) := by decide +kernel
theorem dX0_comesAboutByItself_67 : decode cX0_comesAboutByItself 67 = .ok (.ifCond .eq 7, 3) := by decide +kernel
theorem dX0_comesAboutByItself_70 : decode cX0_comesAboutByItself 70 = .ok (.iconst 1, 1) := by decide +kernel
theorem dX0_comesAboutByItself_71 : decode cX0_comesAboutByItself 71 = .ok (.goto 4, 3) := by decide +kernel
theorem dX0_comesAboutByItself_74 : decode cX0_comesAboutByItself 74 = .ok (.iconst 0, 1) := by decide +kernel
theorem dX0_comesAboutByItself_75 : decode cX0_comesAboutByItself 75 = .ok (.ireturn, 1) := by decide +kernel
set_option maxRecDepth 20000 in
theorem ggX0_leaderFails_X0_isOn : GoodIn wsX0_leaderFails wsX0_isOn := goodIn_r _ [7, 8, 40, 41, 42, 43, 44, 45, 46, 47, 48, 49, 50, 51] (by decide +kernel) (by decide +kernel)
set_option maxRecDepth 20000 in
theorem gX0_leaderFails_X0_isOn : GoodIn wsX0_leaderFails (wsV RX0 104 RX0 yX0_isOn wsX0_isOn) := goodIn_app (goodIn_of _ (by decide +kernel)) ggX0_leaderFails_X0_isOn
set_option maxRecDepth 20000 in
theorem ggX0_leaderFails_X0_turnOff : GoodIn wsX0_leaderFails wsX0_turnOff := goodIn_r _ [12, 13, 14, 15, 6, 16, 8, 17, 18, 19, 20, 21, 22, 23, 24, 25, 26, 27, 28, 29, 30, 31, 32, 33, 34, 35, 36, 37, 38, 39, 40, 41, 42, 43, 44, 45, 46, 47, 48, 49, 50, 51] (by decide +kernel) (by decide +kernel)
set_option maxRecDepth 20000 in
theorem gX0_leaderFails_X0_turnOff : GoodIn wsX0_leaderFails (wsV RX0 162 RX0 yX0_turnOff wsX0_turnOff) := goodIn_app (goodIn_of _ (by decide +kernel)) ggX0_leaderFails_X0_turnOff
theorem dX0_leaderFails_0 : decode cX0_leaderFails 0 = .ok (.aload_n 0, 1) := by decide +kernel
theorem dX0_leaderFails_1 : decode cX0_leaderFails 1 = .ok (.invokevirtual 104, 3) := by decide +kernel
theorem dX0_leaderFails_4 : decode cX0_leaderFails 4 = .ok (.ifCond .eq 15, 3) := by decide +kernel
theorem dX0_leaderFails_7 : decode cX0_leaderFails 7 = .ok (.aload_n 0, 1) := by decide +kernel
theorem dX0_leaderFails_8 : decode cX0_leaderFails 8 = .ok (.getfield 19, 3) := by decide +kernel
theorem dX0_leaderFails_11 : decode cX0_leaderFails 11 = .ok (.aload_n 0, 1) := by decide +kernel
theorem dX0_leaderFails_12 : decode cX0_leaderFails 12 = .ok (.getfield 111, 3) := by decide +kernel
theorem dX0_leaderFails_15 : decode cX0_leaderFails 15 = .ok (.baload, 1) := by decide +kernel
theorem dX0_leaderFails_16 : decode cX0_leaderFails 16 = .ok (.ifCond .eq 5, 3) := by decide +kernel
theorem dX0_leaderFails_19 : decode cX0_leaderFails 19 = .ok (.iconst 0, 1) := by decide +kernel
theorem dX0_leaderFails_20 : decode cX0_leaderFails 20 = .ok (.ireturn, 1) := by decide +kernel
theorem dX0_leaderFails_21 : decode cX0_leaderFails 21 = .ok (.iconst 1, 1) := by decide +kernel
theorem dX0_leaderFails_22 : decode cX0_leaderFails 22 = .ok (.aload_n 0, 1) := by decide +kernel
theorem dX0_leaderFails_23 : decode cX0_leaderFails 23 = .ok (.getfield 111, 3) := by decide +kernel
theorem dX0_leaderFails_26 : decode cX0_leaderFails 26 = .ok (.isub, 1) := by decide +kernel
theorem dX0_leaderFails_27 : decode cX0_leaderFails 27 = .ok (.istore_n 1, 1) := by decide +kernel
theorem dX0_leaderFails_28 : decode cX0_leaderFails 28 = .ok (.aload_n 0, 1) := by decide +kernel
theorem dX0_leaderFails_29 : decode cX0_leaderFails 29 = .ok (.getfield 19, 3) := by decide +kernel
theorem dX0_leaderFails_32 : decode cX0_leaderFails 32 = .ok (.iload_n 1, 1) := by decide +kernel
theorem dX0_leaderFails_33 : decode cX0_leaderFails 33 = .ok (.baload, 1) := by decide +kernel
theorem dX0_leaderFails_34 : decode cX0_leaderFails 34 = .ok (.ifCond .eq 11, 3) := by decide +kernel
theorem dX0_leaderFails_37 : decode cX0_leaderFails 37 = .ok (.aload_n 0, 1) := by decide +kernel
theorem dX0_leaderFails_38 : decode cX0_leaderFails 38 = .ok (.iload_n 1, 1) := by decide +kernel
theorem dX0_leaderFails_39 : decode cX0_leaderFails 39 = .ok (.putfield 111, 3) := by decide +kernel
theorem dX0_leaderFails_42 : decode cX0_leaderFails 42 = .ok (.goto 8, 3) := by decide +kernel
theorem dX0_leaderFails_45 : decode cX0_leaderFails 45 = .ok (.aload_n 0, 1) := by decide +kernel
theorem dX0_leaderFails_46 : decode cX0_leaderFails 46 = .ok (.iconst 1, 1) := by decide +kernel
theorem dX0_leaderFails_47 : decode cX0_leaderFails 47 = .ok (.invokevirtual 162, 3) := by decide +kernel
theorem dX0_leaderFails_50 : decode cX0_leaderFails 50 = .ok (.iconst 1, 1) := by decide +kernel
theorem dX0_leaderFails_51 : decode cX0_leaderFails 51 = .ok (.ireturn, 1) := by decide +kernel
set_option maxRecDepth 20000 in
theorem ggX0_courseIsLost_X0_leaveCourseFor : GoodIn wsX0_courseIsLost wsX0_leaveCourseFor := goodIn_r _ [7, 1, 8, 9, 10, 11, 12, 6, 13, 14, 15, 16, 17, 18, 19, 20, 21, 22, 23, 24, 25, 26, 27, 28, 29, 30, 31] (by decide +kernel) (by decide +kernel)
set_option maxRecDepth 20000 in
theorem gX0_courseIsLost_X0_leaveCourseFor : GoodIn wsX0_courseIsLost (wsV RX0 158 RX0 yX0_leaveCourseFor wsX0_leaveCourseFor) := goodIn_app (goodIn_of _ (by decide +kernel)) ggX0_courseIsLost_X0_leaveCourseFor
theorem dX0_courseIsLost_0 : decode cX0_courseIsLost 0 = .ok (.aload_n 0, 1) := by decide +kernel
theorem dX0_courseIsLost_1 : decode cX0_courseIsLost 1 = .ok (.getfield 7, 3) := by decide +kernel
theorem dX0_courseIsLost_4 : decode cX0_courseIsLost 4 = .ok (.iconst 0, 1) := by decide +kernel
theorem dX0_courseIsLost_5 : decode cX0_courseIsLost 5 = .ok (.iaload, 1) := by decide +kernel
theorem dX0_courseIsLost_6 : decode cX0_courseIsLost 6 = .ok (.iconst 3, 1) := by decide +kernel
theorem dX0_courseIsLost_7 : decode cX0_courseIsLost 7 = .ok (.if_icmp .eq 13, 3) := by decide +kernel
theorem dX0_courseIsLost_10 : decode cX0_courseIsLost 10 = .ok (.aload_n 0, 1) := by decide +kernel
theorem dX0_courseIsLost_11 : decode cX0_courseIsLost 11 = .ok (.getfield 7, 3) := by decide +kernel
theorem dX0_courseIsLost_14 : decode cX0_courseIsLost 14 = .ok (.iconst 0, 1) := by decide +kernel
theorem dX0_courseIsLost_15 : decode cX0_courseIsLost 15 = .ok (.iaload, 1) := by decide +kernel
theorem dX0_courseIsLost_16 : decode cX0_courseIsLost 16 = .ok (.iconst 4, 1) := by decide +kernel
theorem dX0_courseIsLost_17 : decode cX0_courseIsLost 17 = .ok (.if_icmp .ne 7, 3) := by decide +kernel
theorem dX0_courseIsLost_20 : decode cX0_courseIsLost 20 = .ok (.iconst 1, 1) := by decide +kernel
theorem dX0_courseIsLost_21 : decode cX0_courseIsLost 21 = .ok (.goto 4, 3) := by decide +kernel
theorem dX0_courseIsLost_24 : decode cX0_courseIsLost 24 = .ok (.iconst 0, 1) := by decide +kernel
theorem dX0_courseIsLost_25 : decode cX0_courseIsLost 25 = .ok (.istore_n 1, 1) := by decide +kernel
theorem dX0_courseIsLost_26 : decode cX0_courseIsLost 26 = .ok (.iload_n 1, 1) := by decide +kernel
theorem dX0_courseIsLost_27 : decode cX0_courseIsLost 27 = .ok (.ifCond .eq 13, 3) := by decide +kernel
theorem dX0_courseIsLost_30 : decode cX0_courseIsLost 30 = .ok (.aload_n 0, 1) := by decide +kernel
theorem dX0_courseIsLost_31 : decode cX0_courseIsLost 31 = .ok (.getfield 16, 3) := by decide +kernel
theorem dX0_courseIsLost_34 : decode cX0_courseIsLost 34 = .ok (.iconst 5, 1) := by decide +kernel
theorem dX0_courseIsLost_35 : decode cX0_courseIsLost 35 = .ok (.iaload, 1) := by decide +kernel
theorem dX0_courseIsLost_36 : decode cX0_courseIsLost 36 = .ok (.iconst 1, 1) := by decide +kernel
theorem dX0_courseIsLost_37 : decode cX0_courseIsLost 37 = .ok (.if_icmp .ne 5, 3) := by decide +kernel
theorem dX0_courseIsLost_40 : decode cX0_courseIsLost 40 = .ok (.iconst 0, 1) := by decide +kernel
theorem dX0_courseIsLost_41 : decode cX0_courseIsLost 41 = .ok (.ireturn, 1) := by decide +kernel
theorem dX0_courseIsLost_42 : decode cX0_courseIsLost 42 = .ok (.aload_n 0, 1) := by decide +kernel
theorem dX0_courseIsLost_43 : decode cX0_courseIsLost 43 = .ok (.iconst 1, 1) := by decide +kernel
theorem dX0_courseIsLost_44 : decode cX0_courseIsLost 44 = .ok (.iconst 1, 1) := by decide +kernel
theorem dX0_courseIsLost_45 : decode cX0_courseIsLost 45 = .ok (.invokevirtual 158, 3) := by decide +kernel
theorem dX0_courseIsLost_48 : decode cX0_courseIsLost 48 = .ok (.iconst 1, 1) := by decide +kernel
theorem dX0_courseIsLost_49 : decode cX0_courseIsLost 49 = .ok (.ireturn, 1) := by decide +kernel
set_option maxRecDepth 20000 in
theorem ggX0_pathIsLost_X0_change : GoodIn wsX0_pathIsLost wsX0_change := goodIn_r _ [7, 2, 8, 9, 10, 11, 12, 6, 13, 14, 15, 16, 17, 18, 19, 20, 21, 22, 23, 24, 25] (by decide +kernel) (by decide +kernel)
set_option maxRecDepth 20000 in
theorem gX0_pathIsLost_X0_change : GoodIn wsX0_pathIsLost (wsV RX0 124 RX0 yX0_change wsX0_change) := goodIn_app (goodIn_of _ (by decide +kernel)) ggX0_pathIsLost_X0_change
theorem dX0_pathIsLost_0 : decode cX0_pathIsLost 0 = .ok (.aload_n 0, 1) := by decide +kernel
theorem dX0_pathIsLost_1 : decode cX0_pathIsLost 1 = .ok (.getfield 16, 3) := by decide +kernel
theorem dX0_pathIsLost_4 : decode cX0_pathIsLost 4 = .ok (.bipush 6, 2) := by decide +kernel
theorem dX0_pathIsLost_6 : decode cX0_pathIsLost 6 = .ok (.iaload, 1) := by decide +kernel
theorem dX0_pathIsLost_7 : decode cX0_pathIsLost 7 = .ok (.iconst 1, 1) := by decide +kernel
theorem dX0_pathIsLost_8 : decode cX0_pathIsLost 8 = .ok (.if_icmp .ne 17, 3) := by decide +kernel
theorem dX0_pathIsLost_11 : decode cX0_pathIsLost 11 = .ok (.aload_n 0, 1) := by decide +kernel
theorem dX0_pathIsLost_12 : decode cX0_pathIsLost 12 = .ok (.getfield 7, 3) := by decide +kernel
theorem dX0_pathIsLost_15 : decode cX0_pathIsLost 15 = .ok (.iconst 0, 1) := by decide +kernel
theorem dX0_pathIsLost_16 : decode cX0_pathIsLost 16 = .ok (.iaload, 1) := by decide +kernel
theorem dX0_pathIsLost_17 : decode cX0_pathIsLost 17 = .ok (.iconst 4, 1) := by decide +kernel
theorem dX0_pathIsLost_18 : decode cX0_pathIsLost 18 = .ok (.if_icmp .ne 7, 3) := by decide +kernel
theorem dX0_pathIsLost_21 : decode cX0_pathIsLost 21 = .ok (.iconst 1, 1) := by decide +kernel
theorem dX0_pathIsLost_22 : decode cX0_pathIsLost 22 = .ok (.goto 4, 3) := by decide +kernel
theorem dX0_pathIsLost_25 : decode cX0_pathIsLost 25 = .ok (.iconst 0, 1) := by decide +kernel
theorem dX0_pathIsLost_26 : decode cX0_pathIsLost 26 = .ok (.istore_n 1, 1) := by decide +kernel
theorem dX0_pathIsLost_27 : decode cX0_pathIsLost 27 = .ok (.aload_n 0, 1) := by decide +kernel
theorem dX0_pathIsLost_28 : decode cX0_pathIsLost 28 = .ok (.getfield 7, 3) := by decide +kernel
theorem dX0_pathIsLost_31 : decode cX0_pathIsLost 31 = .ok (.iconst 1, 1) := by decide +kernel
theorem dX0_pathIsLost_32 : decode cX0_pathIsLost 32 = .ok (.iaload, 1) := by decide +kernel
theorem dX0_pathIsLost_33 : decode cX0_pathIsLost 33 = .ok (.bipush 6, 2) := by decide +kernel
theorem dX0_pathIsLost_35 : decode cX0_pathIsLost 35 = .ok (.if_icmp .ne 7, 3) := by decide +kernel
theorem dX0_pathIsLost_38 : decode cX0_pathIsLost 38 = .ok (.iload_n 1, 1) := by decide +kernel
theorem dX0_pathIsLost_39 : decode cX0_pathIsLost 39 = .ok (.ifCond .eq 5, 3) := by decide +kernel
theorem dX0_pathIsLost_42 : decode cX0_pathIsLost 42 = .ok (.iconst 0, 1) := by decide +kernel
theorem dX0_pathIsLost_43 : decode cX0_pathIsLost 43 = .ok (.ireturn, 1) := by decide +kernel
theorem dX0_pathIsLost_44 : decode cX0_pathIsLost 44 = .ok (.aload_n 0, 1) := by decide +kernel
theorem dX0_pathIsLost_45 : decode cX0_pathIsLost 45 = .ok (.iconst 1, 1) := by decide +kernel
theorem dX0_pathIsLost_46 : decode cX0_pathIsLost 46 = .ok (.iconst 1, 1) := by decide +kernel
theorem dX0_pathIsLost_47 : decode cX0_pathIsLost 47 = .ok (.iconst 1, 1) := by decide +kernel
theorem dX0_pathIsLost_48 : decode cX0_pathIsLost 48 = .ok (.invokevirtual 124, 3) := by decide +kernel
theorem dX0_pathIsLost_51 : decode cX0_pathIsLost 51 = .ok (.iconst 1, 1) := by decide +kernel
theorem dX0_pathIsLost_52 : decode cX0_pathIsLost 52 = .ok (.ireturn, 1) := by decide +kernel
set_option maxRecDepth 20000 in
theorem ggX0_navIsReached_X0_isCourseWithin : GoodIn wsX0_navIsReached wsX0_isCourseWithin := goodIn_r _ [6, 7, 8, 9, 10, 11, 23, 24, 25, 26, 27, 28, 29, 30, 31, 32, 33, 34] (by decide +kernel) (by decide +kernel)
set_option maxRecDepth 20000 in
theorem gX0_navIsReached_X0_isCourseWithin : GoodIn wsX0_navIsReached (wsV RX0 199 RX0 yX0_isCourseWithin wsX0_isCourseWithin) := goodIn_app (goodIn_of _ (by decide +kernel)) ggX0_navIsReached_X0_isCourseWithin
set_option maxRecDepth 20000 in
theorem ggX0_navIsReached_X0_change : GoodIn wsX0_navIsReached wsX0_change := goodIn_r _ [15, 16, 17, 18, 19, 20, 21, 5, 22, 23, 24, 25, 26, 27, 28, 29, 30, 31, 32, 33, 34] (by decide +kernel) (by decide +kernel)
set_option maxRecDepth 20000 in
theorem gX0_navIsReached_X0_change : GoodIn wsX0_navIsReached (wsV RX0 124 RX0 yX0_change wsX0_change) := goodIn_app (goodIn_of _ (by decide +kernel)) ggX0_navIsReached_X0_change
theorem dX0_navIsReached_0 : decode cX0_navIsReached 0 = .ok (.aload_n 0, 1) := by decide +kernel
theorem dX0_navIsReached_1 : decode cX0_navIsReached 1 = .ok (.getfield 90, 3) := by decide +kernel
theorem dX0_navIsReached_4 : decode cX0_navIsReached 4 = .ok (.ifCond .eq 13, 3) := by decide +kernel
theorem dX0_navIsReached_7 : decode cX0_navIsReached 7 = .ok (.aload_n 0, 1) := by decide +kernel
theorem dX0_navIsReached_8 : decode cX0_navIsReached 8 = .ok (.sipush 150, 3) := by decide +kernel
theorem dX0_navIsReached_11 : decode cX0_navIsReached 11 = .ok (.invokevirtual 199, 3) := by decide +kernel
theorem dX0_navIsReached_14 : decode cX0_navIsReached 14 = .ok (.ifCond .ne 5, 3) := by decide +kernel
theorem dX0_navIsReached_17 : decode cX0_navIsReached 17 = .ok (.iconst 0, 1) := by decide +kernel
theorem dX0_navIsReached_18 : decode cX0_navIsReached 18 = .ok (.ireturn, 1) := by decide +kernel
theorem dX0_navIsReached_19 : decode cX0_navIsReached 19 = .ok (.aload_n 0, 1) := by decide +kernel
theorem dX0_navIsReached_20 : decode cX0_navIsReached 20 = .ok (.iconst 0, 1) := by decide +kernel
theorem dX0_navIsReached_21 : decode cX0_navIsReached 21 = .ok (.iconst 3, 1) := by decide +kernel
theorem dX0_navIsReached_22 : decode cX0_navIsReached 22 = .ok (.iconst 1, 1) := by decide +kernel
theorem dX0_navIsReached_23 : decode cX0_navIsReached 23 = .ok (.invokevirtual 124, 3) := by decide +kernel
theorem dX0_navIsReached_26 : decode cX0_navIsReached 26 = .ok (.aload_n 0, 1) := by decide +kernel
theorem dX0_navIsReached_27 : decode cX0_navIsReached 27 = .ok (.iconst 0, 1) := by decide +kernel
theorem dX0_navIsReached_28 : decode cX0_navIsReached 28 = .ok (.putfield 90, 3) := by decide +kernel
theorem dX0_navIsReached_31 : decode cX0_navIsReached 31 = .ok (.iconst 1, 1) := by decide +kernel
theorem dX0_navIsReached_32 : decode cX0_navIsReached 32 = .ok (.ireturn, 1) := by decide +kernel
set_option maxRecDepth 20000 in
theorem ggX0_approachIsReached_X0_isCourseWithin : GoodIn wsX0_approachIsReached wsX0_isCourseWithin := goodIn_r _ [6, 7, 8, 9, 10, 11, 23, 24, 25, 26, 27, 28, 29, 30, 31, 32, 33, 34] (by decide +kernel) (by decide +kernel)
set_option maxRecDepth 20000 in
theorem gX0_approachIsReached_X0_isCourseWithin : GoodIn wsX0_approachIsReached (wsV RX0 199 RX0 yX0_isCourseWithin wsX0_isCourseWithin) := goodIn_app (goodIn_of _ (by decide +kernel)) ggX0_approachIsReached_X0_isCourseWithin
set_option maxRecDepth 20000 in
theorem ggX0_approachIsReached_X0_change : GoodIn wsX0_approachIsReached wsX0_change := goodIn_r _ [15, 16, 17, 18, 19, 20, 21, 5, 22, 23, 24, 25, 26, 27, 28, 29, 30, 31, 32, 33, 34] (by decide +kernel) (by decide +kernel)
set_option maxRecDepth 20000 in
theorem gX0_approachIsReached_X0_change : GoodIn wsX0_approachIsReached (wsV RX0 124 RX0 yX0_change wsX0_change) := goodIn_app (goodIn_of _ (by decide +kernel)) ggX0_approachIsReached_X0_change
theorem dX0_approachIsReached_0 : decode cX0_approachIsReached 0 = .ok (.aload_n 0, 1) := by decide +kernel
theorem dX0_approachIsReached_1 : decode cX0_approachIsReached 1 = .ok (.getfield 93, 3) := by decide +kernel
theorem dX0_approachIsReached_4 : decode cX0_approachIsReached 4 = .ok (.ifCond .eq 12, 3) := by decide +kernel
theorem dX0_approachIsReached_7 : decode cX0_approachIsReached 7 = .ok (.aload_n 0, 1) := by decide +kernel
theorem dX0_approachIsReached_8 : decode cX0_approachIsReached 8 = .ok (.bipush 100, 2) := by decide +kernel
theorem dX0_approachIsReached_10 : decode cX0_approachIsReached 10 = .ok (.invokevirtual 199, 3) := by decide +kernel
theorem dX0_approachIsReached_13 : decode cX0_approachIsReached 13 = .ok (.ifCond .ne 5, 3) := by decide +kernel
theorem dX0_approachIsReached_16 : decode cX0_approachIsReached 16 = .ok (.iconst 0, 1) := by decide +kernel
theorem dX0_approachIsReached_17 : decode cX0_approachIsReached 17 = .ok (.ireturn, 1) := by decide +kernel
theorem dX0_approachIsReached_18 : decode cX0_approachIsReached 18 = .ok (.aload_n 0, 1) := by decide +kernel
theorem dX0_approachIsReached_19 : decode cX0_approachIsReached 19 = .ok (.iconst 0, 1) := by decide +kernel
theorem dX0_approachIsReached_20 : decode cX0_approachIsReached 20 = .ok (.iconst 4, 1) := by decide +kernel
theorem dX0_approachIsReached_21 : decode cX0_approachIsReached 21 = .ok (.iconst 1, 1) := by decide +kernel
theorem dX0_approachIsReached_22 : decode cX0_approachIsReached 22 = .ok (.invokevirtual 124, 3) := by decide +kernel
theorem dX0_approachIsReached_25 : decode cX0_approachIsReached 25 = .ok (.aload_n 0, 1) := by decide +kernel
theorem dX0_approachIsReached_26 : decode cX0_approachIsReached 26 = .ok (.iconst 0, 1) := by decide +kernel
theorem dX0_approachIsReached_27 : decode cX0_approachIsReached 27 = .ok (.putfield 93, 3) := by decide +kernel
theorem dX0_approachIsReached_30 : decode cX0_approachIsReached 30 = .ok (.iconst 1, 1) := by decide +kernel
theorem dX0_approachIsReached_31 : decode cX0_approachIsReached 31 = .ok (.ireturn, 1) := by decide +kernel
set_option maxRecDepth 20000 in
theorem ggX0_glideIsReached_X0_isPathWithin : GoodIn wsX0_glideIsReached wsX0_isPathWithin := goodIn_r _ [7, 8, 9, 10, 11, 12, 23, 24, 25, 26, 27, 28, 29, 30, 31, 32, 33, 34] (by decide +kernel) (by decide +kernel)
set_option maxRecDepth 20000 in
theorem gX0_glideIsReached_X0_isPathWithin : GoodIn wsX0_glideIsReached (wsV RX0 202 RX0 yX0_isPathWithin wsX0_isPathWithin) := goodIn_app (goodIn_of _ (by decide +kernel)) ggX0_glideIsReached_X0_isPathWithin
set_option maxRecDepth 20000 in
theorem ggX0_glideIsReached_X0_change : GoodIn wsX0_glideIsReached wsX0_change := goodIn_r _ [16, 2, 17, 18, 19, 20, 21, 6, 22, 23, 24, 25, 26, 27, 28, 29, 30, 31, 32, 33, 34] (by decide +kernel) (by decide +kernel)
set_option maxRecDepth 20000 in
theorem gX0_glideIsReached_X0_change : GoodIn wsX0_glideIsReached (wsV RX0 124 RX0 yX0_change wsX0_change) := goodIn_app (goodIn_of _ (by decide +kernel)) ggX0_glideIsReached_X0_change
theorem dX0_glideIsReached_0 : decode cX0_glideIsReached 0 = .ok (.aload_n 0, 1) := by decide +kernel
theorem dX0_glideIsReached_1 : decode cX0_glideIsReached 1 = .ok (.getfield 96, 3) := by decide +kernel
theorem dX0_glideIsReached_4 : decode cX0_glideIsReached 4 = .ok (.ifCond .eq 22, 3) := by decide +kernel
theorem dX0_glideIsReached_7 : decode cX0_glideIsReached 7 = .ok (.aload_n 0, 1) := by decide +kernel
theorem dX0_glideIsReached_8 : decode cX0_glideIsReached 8 = .ok (.getfield 7, 3) := by decide +kernel
theorem dX0_glideIsReached_11 : decode cX0_glideIsReached 11 = .ok (.iconst 0, 1) := by decide +kernel
theorem dX0_glideIsReached_12 : decode cX0_glideIsReached 12 = .ok (.iaload, 1) := by decide +kernel
theorem dX0_glideIsReached_13 : decode cX0_glideIsReached 13 = .ok (.iconst 4, 1) := by decide +kernel
theorem dX0_glideIsReached_14 : decode cX0_glideIsReached 14 = .ok (.if_icmp .ne 12, 3) := by decide +kernel
theorem dX0_glideIsReached_17 : decode cX0_glideIsReached 17 = .ok (.aload_n 0, 1) := by decide +kernel
theorem dX0_glideIsReached_18 : decode cX0_glideIsReached 18 = .ok (.bipush 80, 2) := by decide +kernel
theorem dX0_glideIsReached_20 : decode cX0_glideIsReached 20 = .ok (.invokevirtual 202, 3) := by decide +kernel
theorem dX0_glideIsReached_23 : decode cX0_glideIsReached 23 = .ok (.ifCond .ne 5, 3) := by decide +kernel
theorem dX0_glideIsReached_26 : decode cX0_glideIsReached 26 = .ok (.iconst 0, 1) := by decide +kernel
theorem dX0_glideIsReached_27 : decode cX0_glideIsReached 27 = .ok (.ireturn, 1) := by decide +kernel
theorem dX0_glideIsReached_28 : decode cX0_glideIsReached 28 = .ok (.aload_n 0, 1) := by decide +kernel
theorem dX0_glideIsReached_29 : decode cX0_glideIsReached 29 = .ok (.iconst 1, 1) := by decide +kernel
theorem dX0_glideIsReached_30 : decode cX0_glideIsReached 30 = .ok (.bipush 6, 2) := by decide +kernel
theorem dX0_glideIsReached_32 : decode cX0_glideIsReached 32 = .ok (.iconst 1, 1) := by decide +kernel
theorem dX0_glideIsReached_33 : decode cX0_glideIsReached 33 = .ok (.invokevirtual 124, 3) := by decide +kernel
theorem dX0_glideIsReached_36 : decode cX0_glideIsReached 36 = .ok (.aload_n 0, 1) := by decide +kernel
theorem dX0_glideIsReached_37 : decode cX0_glideIsReached 37 = .ok (.iconst 0, 1) := by decide +kernel
theorem dX0_glideIsReached_38 : decode cX0_glideIsReached 38 = .ok (.putfield 96, 3) := by decide +kernel
theorem dX0_glideIsReached_41 : decode cX0_glideIsReached 41 = .ok (.iconst 1, 1) := by decide +kernel
theorem dX0_glideIsReached_42 : decode cX0_glideIsReached 42 = .ok (.ireturn, 1) := by decide +kernel
set_option maxRecDepth 20000 in
theorem ggX0_heightComesNear_X0_isCaptureArmed : GoodIn wsX0_heightComesNear wsX0_isCaptureArmed := goodIn_r _ [5, 6, 26, 27, 28, 29, 30, 31, 32, 33, 34, 35, 36, 37] (by decide +kernel) (by decide +kernel)
set_option maxRecDepth 20000 in
theorem gX0_heightComesNear_X0_isCaptureArmed : GoodIn wsX0_heightComesNear (wsV RX0 99 RX0 yX0_isCaptureArmed wsX0_isCaptureArmed) := goodIn_app (goodIn_of _ (by decide +kernel)) ggX0_heightComesNear_X0_isCaptureArmed
set_option maxRecDepth 20000 in
theorem ggX0_heightComesNear_X0_isHeightWithin : GoodIn wsX0_heightComesNear wsX0_isHeightWithin := goodIn_r _ [10, 11, 12, 13, 14, 15, 26, 27, 28, 29, 30, 31, 32, 33, 34, 35, 36, 37] (by decide +kernel) (by decide +kernel)
set_option maxRecDepth 20000 in
theorem gX0_heightComesNear_X0_isHeightWithin : GoodIn wsX0_heightComesNear (wsV RX0 205 RX0 yX0_isHeightWithin wsX0_isHeightWithin) := goodIn_app (goodIn_of _ (by decide +kernel)) ggX0_heightComesNear_X0_isHeightWithin
set_option maxRecDepth 20000 in
theorem ggX0_heightComesNear_X0_change : GoodIn wsX0_heightComesNear wsX0_change := goodIn_r _ [19, 6, 20, 21, 22, 23, 24, 4, 25, 26, 27, 28, 29, 30, 31, 32, 33, 34, 35, 36, 37] (by decide +kernel) (by decide +kernel)
set_option maxRecDepth 20000 in
theorem gX0_heightComesNear_X0_change : GoodIn wsX0_heightComesNear (wsV RX0 124 RX0 yX0_change wsX0_change) := goodIn_app (goodIn_of _ (by decide +kernel)) ggX0_heightComesNear_X0_change
theorem dX0_heightComesNear_0 : decode cX0_heightComesNear 0 = .ok (.aload_n 0, 1) := by decide +kernel
theorem dX0_heightComesNear_1 : decode cX0_heightComesNear 1 = .ok (.invokevirtual 99, 3) := by decide +kernel
theorem dX0_heightComesNear_4 : decode cX0_heightComesNear 4 = .ok (.ifCond .eq 13, 3) := by decide +kernel
theorem dX0_heightComesNear_7 : decode cX0_heightComesNear 7 = .ok (.aload_n 0, 1) := by decide +kernel
theorem dX0_heightComesNear_8 : decode cX0_heightComesNear 8 = .ok (.sipush 400, 3) := by decide +kernel
theorem dX0_heightComesNear_11 : decode cX0_heightComesNear 11 = .ok (.invokevirtual 205, 3) := by decide +kernel
theorem dX0_heightComesNear_14 : decode cX0_heightComesNear 14 = .ok (.ifCond .ne 5, 3) := by decide +kernel
theorem dX0_heightComesNear_17 : decode cX0_heightComesNear 17 = .ok (.iconst 0, 1) := by decide +kernel
theorem dX0_heightComesNear_18 : decode cX0_heightComesNear 18 = .ok (.ireturn, 1) := by decide +kernel
theorem dX0_heightComesNear_19 : decode cX0_heightComesNear 19 = .ok (.aload_n 0, 1) := by decide +kernel
theorem dX0_heightComesNear_20 : decode cX0_heightComesNear 20 = .ok (.iconst 1, 1) := by decide +kernel
theorem dX0_heightComesNear_21 : decode cX0_heightComesNear 21 = .ok (.iconst 5, 1) := by decide +kernel
theorem dX0_heightComesNear_22 : decode cX0_heightComesNear 22 = .ok (.iconst 1, 1) := by decide +kernel
theorem dX0_heightComesNear_23 : decode cX0_heightComesNear 23 = .ok (.invokevirtual 124, 3) := by decide +kernel
theorem dX0_heightComesNear_26 : decode cX0_heightComesNear 26 = .ok (.iconst 1, 1) := by decide +kernel
theorem dX0_heightComesNear_27 : decode cX0_heightComesNear 27 = .ok (.ireturn, 1) := by decide +kernel
set_option maxRecDepth 20000 in
theorem ggX0_heightIsReached_X0_isHeightWithin : GoodIn wsX0_heightIsReached wsX0_isHeightWithin := goodIn_r _ [6, 7, 8, 9, 10, 11, 22, 23, 24, 25, 26, 27, 28, 29, 30, 31, 32, 33] (by decide +kernel) (by decide +kernel)
set_option maxRecDepth 20000 in
theorem gX0_heightIsReached_X0_isHeightWithin : GoodIn wsX0_heightIsReached (wsV RX0 205 RX0 yX0_isHeightWithin wsX0_isHeightWithin) := goodIn_app (goodIn_of _ (by decide +kernel)) ggX0_heightIsReached_X0_isHeightWithin
set_option maxRecDepth 20000 in
theorem ggX0_heightIsReached_X0_change : GoodIn wsX0_heightIsReached wsX0_change := goodIn_r _ [15, 1, 16, 17, 18, 19, 20, 5, 21, 22, 23, 24, 25, 26, 27, 28, 29, 30, 31, 32, 33] (by decide +kernel) (by decide +kernel)
set_option maxRecDepth 20000 in
theorem gX0_heightIsReached_X0_change : GoodIn wsX0_heightIsReached (wsV RX0 124 RX0 yX0_change wsX0_change) := goodIn_app (goodIn_of _ (by decide +kernel)) ggX0_heightIsReached_X0_change
theorem dX0_heightIsReached_0 : decode cX0_heightIsReached 0 = .ok (.aload_n 0, 1) := by decide +kernel
theorem dX0_heightIsReached_1 : decode cX0_heightIsReached 1 = .ok (.getfield 7, 3) := by decide +kernel
theorem dX0_heightIsReached_4 : decode cX0_heightIsReached 4 = .ok (.iconst 1, 1) := by decide +kernel
theorem dX0_heightIsReached_5 : decode cX0_heightIsReached 5 = .ok (.iaload, 1) := by decide +kernel
theorem dX0_heightIsReached_6 : decode cX0_heightIsReached 6 = .ok (.iconst 5, 1) := by decide +kernel
theorem dX0_heightIsReached_7 : decode cX0_heightIsReached 7 = .ok (.if_icmp .ne 12, 3) := by decide +kernel
theorem dX0_heightIsReached_10 : decode cX0_heightIsReached 10 = .ok (.aload_n 0, 1) := by decide +kernel
theorem dX0_heightIsReached_11 : decode cX0_heightIsReached 11 = .ok (.bipush 20, 2) := by decide +kernel
theorem dX0_heightIsReached_13 : decode cX0_heightIsReached 13 = .ok (.invokevirtual 205, 3) := by decide +kernel
theorem dX0_heightIsReached_16 : decode cX0_heightIsReached 16 = .ok (.ifCond .ne 5, 3) := by decide +kernel
theorem dX0_heightIsReached_19 : decode cX0_heightIsReached 19 = .ok (.iconst 0, 1) := by decide +kernel
theorem dX0_heightIsReached_20 : decode cX0_heightIsReached 20 = .ok (.ireturn, 1) := by decide +kernel
theorem dX0_heightIsReached_21 : decode cX0_heightIsReached 21 = .ok (.aload_n 0, 1) := by decide +kernel
theorem dX0_heightIsReached_22 : decode cX0_heightIsReached 22 = .ok (.iconst 1, 1) := by decide +kernel
theorem dX0_heightIsReached_23 : decode cX0_heightIsReached 23 = .ok (.iconst 4, 1) := by decide +kernel
theorem dX0_heightIsReached_24 : decode cX0_heightIsReached 24 = .ok (.iconst 1, 1) := by decide +kernel
theorem dX0_heightIsReached_25 : decode cX0_heightIsReached 25 = .ok (.invokevirtual 124, 3) := by decide +kernel
theorem dX0_heightIsReached_28 : decode cX0_heightIsReached 28 = .ok (.iconst 1, 1) := by decide +kernel
theorem dX0_heightIsReached_29 : decode cX0_heightIsReached 29 = .ok (.ireturn, 1) := by decide +kernel
set_option maxRecDepth 20000 in
theorem ggX0_heightIsLost_X0_isHeightWithin : GoodIn wsX0_heightIsLost wsX0_isHeightWithin := goodIn_r _ [6, 7, 8, 9, 10, 11, 22, 23, 24, 25, 26, 27, 28, 29, 30, 31, 32, 33] (by decide +kernel) (by decide +kernel)
set_option maxRecDepth 20000 in
theorem gX0_heightIsLost_X0_isHeightWithin : GoodIn wsX0_heightIsLost (wsV RX0 205 RX0 yX0_isHeightWithin wsX0_isHeightWithin) := goodIn_app (goodIn_of _ (by decide +kernel)) ggX0_heightIsLost_X0_isHeightWithin
set_option maxRecDepth 20000 in
theorem ggX0_heightIsLost_X0_change : GoodIn wsX0_heightIsLost wsX0_change := goodIn_r _ [15, 1, 16, 17, 18, 19, 20, 5, 21, 22, 23, 24, 25, 26, 27, 28, 29, 30, 31, 32, 33] (by decide +kernel) (by decide +kernel)
set_option maxRecDepth 20000 in
theorem gX0_heightIsLost_X0_change : GoodIn wsX0_heightIsLost (wsV RX0 124 RX0 yX0_change wsX0_change) := goodIn_app (goodIn_of _ (by decide +kernel)) ggX0_heightIsLost_X0_change
theorem dX0_heightIsLost_0 : decode cX0_heightIsLost 0 = .ok (.aload_n 0, 1) := by decide +kernel
theorem dX0_heightIsLost_1 : decode cX0_heightIsLost 1 = .ok (.getfield 7, 3) := by decide +kernel
theorem dX0_heightIsLost_4 : decode cX0_heightIsLost 4 = .ok (.iconst 1, 1) := by decide +kernel
theorem dX0_heightIsLost_5 : decode cX0_heightIsLost 5 = .ok (.iaload, 1) := by decide +kernel
theorem dX0_heightIsLost_6 : decode cX0_heightIsLost 6 = .ok (.iconst 5, 1) := by decide +kernel
theorem dX0_heightIsLost_7 : decode cX0_heightIsLost 7 = .ok (.if_icmp .ne 13, 3) := by decide +kernel
theorem dX0_heightIsLost_10 : decode cX0_heightIsLost 10 = .ok (.aload_n 0, 1) := by decide +kernel
theorem dX0_heightIsLost_11 : decode cX0_heightIsLost 11 = .ok (.sipush 400, 3) := by decide +kernel
theorem dX0_heightIsLost_14 : decode cX0_heightIsLost 14 = .ok (.invokevirtual 205, 3) := by decide +kernel
theorem dX0_heightIsLost_17 : decode cX0_heightIsLost 17 = .ok (.ifCond .eq 5, 3) := by decide +kernel
theorem dX0_heightIsLost_20 : decode cX0_heightIsLost 20 = .ok (.iconst 0, 1) := by decide +kernel
theorem dX0_heightIsLost_21 : decode cX0_heightIsLost 21 = .ok (.ireturn, 1) := by decide +kernel
theorem dX0_heightIsLost_22 : decode cX0_heightIsLost 22 = .ok (.aload_n 0, 1) := by decide +kernel
theorem dX0_heightIsLost_23 : decode cX0_heightIsLost 23 = .ok (.iconst 1, 1) := by decide +kernel
theorem dX0_heightIsLost_24 : decode cX0_heightIsLost 24 = .ok (.iconst 1, 1) := by decide +kernel
theorem dX0_heightIsLost_25 : decode cX0_heightIsLost 25 = .ok (.iconst 1, 1) := by decide +kernel
theorem dX0_heightIsLost_26 : decode cX0_heightIsLost 26 = .ok (.invokevirtual 124, 3) := by decide +kernel
theorem dX0_heightIsLost_29 : decode cX0_heightIsLost 29 = .ok (.iconst 1, 1) := by decide +kernel
theorem dX0_heightIsLost_30 : decode cX0_heightIsLost 30 = .ok (.ireturn, 1) := by decide +kernel
set_option maxRecDepth 20000 in
theorem ggX0_climbIsTooFast_X0_isTooFast : GoodIn wsX0_climbIsTooFast wsX0_isTooFast := goodIn_r _ [6, 7, 18, 19, 20, 21, 22, 23, 24, 25, 26, 27, 28, 29] (by decide +kernel) (by decide +kernel)
set_option maxRecDepth 20000 in
theorem gX0_climbIsTooFast_X0_isTooFast : GoodIn wsX0_climbIsTooFast (wsV RX0 74 RX0 yX0_isTooFast wsX0_isTooFast) := goodIn_app (goodIn_of _ (by decide +kernel)) ggX0_climbIsTooFast_X0_isTooFast
set_option maxRecDepth 20000 in
theorem ggX0_climbIsTooFast_X0_change : GoodIn wsX0_climbIsTooFast wsX0_change := goodIn_r _ [11, 1, 12, 13, 14, 15, 16, 5, 17, 18, 19, 20, 21, 22, 23, 24, 25, 26, 27, 28, 29] (by decide +kernel) (by decide +kernel)
set_option maxRecDepth 20000 in
theorem gX0_climbIsTooFast_X0_change : GoodIn wsX0_climbIsTooFast (wsV RX0 124 RX0 yX0_change wsX0_change) := goodIn_app (goodIn_of _ (by decide +kernel)) ggX0_climbIsTooFast_X0_change
theorem dX0_climbIsTooFast_0 : decode cX0_climbIsTooFast 0 = .ok (.aload_n 0, 1) := by decide +kernel
theorem dX0_climbIsTooFast_1 : decode cX0_climbIsTooFast 1 = .ok (.getfield 7, 3) := by decide +kernel
theorem dX0_climbIsTooFast_4 : decode cX0_climbIsTooFast 4 = .ok (.iconst 1, 1) := by decide +kernel
theorem dX0_climbIsTooFast_5 : decode cX0_climbIsTooFast 5 = .ok (.iaload, 1) := by decide +kernel
theorem dX0_climbIsTooFast_6 : decode cX0_climbIsTooFast 6 = .ok (.iconst 2, 1) := by decide +kernel
theorem dX0_climbIsTooFast_7 : decode cX0_climbIsTooFast 7 = .ok (.if_icmp .ne 10, 3) := by decide +kernel
theorem dX0_climbIsTooFast_10 : decode cX0_climbIsTooFast 10 = .ok (.aload_n 0, 1) := by decide +kernel
theorem dX0_climbIsTooFast_11 : decode cX0_climbIsTooFast 11 = .ok (.invokevirtual 74, 3) := by decide +kernel
theorem dX0_climbIsTooFast_14 : decode cX0_climbIsTooFast 14 = .ok (.ifCond .ne 5, 3) := by decide +kernel
theorem dX0_climbIsTooFast_17 : decode cX0_climbIsTooFast 17 = .ok (.iconst 0, 1) := by decide +kernel
theorem dX0_climbIsTooFast_18 : decode cX0_climbIsTooFast 18 = .ok (.ireturn, 1) := by decide +kernel
theorem dX0_climbIsTooFast_19 : decode cX0_climbIsTooFast 19 = .ok (.aload_n 0, 1) := by decide +kernel
theorem dX0_climbIsTooFast_20 : decode cX0_climbIsTooFast 20 = .ok (.iconst 1, 1) := by decide +kernel
theorem dX0_climbIsTooFast_21 : decode cX0_climbIsTooFast 21 = .ok (.iconst 3, 1) := by decide +kernel
theorem dX0_climbIsTooFast_22 : decode cX0_climbIsTooFast 22 = .ok (.iconst 1, 1) := by decide +kernel
theorem dX0_climbIsTooFast_23 : decode cX0_climbIsTooFast 23 = .ok (.invokevirtual 124, 3) := by decide +kernel
theorem dX0_climbIsTooFast_26 : decode cX0_climbIsTooFast 26 = .ok (.iconst 1, 1) := by decide +kernel
theorem dX0_climbIsTooFast_27 : decode cX0_climbIsTooFast 27 = .ok (.ireturn, 1) := by decide +kernel
theorem dX1_init_0 : decode cX1_init 0 = .ok (.aload_n 0, 1) := by decide +kernel
theorem dX1_init_1 : decode cX1_init 1 = .ok (.invokespecial 1, 3) := by decide +kernel
theorem dX1_init_4 : decode cX1_init 4 = .ok (.aload_n 0, 1) := by decide +kernel
theorem dX1_init_5 : decode cX1_init 5 = .ok (.bipush 7, 2) := by decide +kernel
theorem dX1_init_7 : decode cX1_init 7 = .ok (.newarray .int, 2) := by decide +kernel
theorem dX1_init_9 : decode cX1_init 9 = .ok (.putfield 7, 3) := by decide +kernel
theorem dX1_init_12 : decode cX1_init 12 = .ok (.aload_n 0, 1) := by decide +kernel
theorem dX1_init_13 : decode cX1_init 13 = .ok (.sipush 1200, 3) := by decide +kernel
theorem dX1_init_16 : decode cX1_init 16 = .ok (.newarray .int, 2) := by decide +kernel
theorem dX1_init_18 : decode cX1_init 18 = .ok (.putfield 13, 3) := by decide +kernel
theorem dX1_init_21 : decode cX1_init 21 = .ok (.aload_n 0, 1) := by decide +kernel
theorem dX1_init_22 : decode cX1_init 22 = .ok (.iconst 0, 1) := by decide +kernel
theorem dX1_init_23 : decode cX1_init 23 = .ok (.putfield 16, 3) := by decide +kernel
theorem dX1_init_26 : decode cX1_init 26 = .ok (.return_, 1) := by decide +kernel
theorem dX1_thrown_0 : decode cX1_thrown 0 = .ok (.aload_n 0, 1) := by decide +kernel
theorem dX1_thrown_1 : decode cX1_thrown 1 = .ok (.getfield 20, 3) := by decide +kernel
theorem dX1_thrown_4 : decode cX1_thrown 4 = .ok (.ireturn, 1) := by decide +kernel
theorem dX1_good_0 : decode cX1_good 0 = .ok (.aload_n 0, 1) := by decide +kernel
theorem dX1_good_1 : decode cX1_good 1 = .ok (.iload_n 1, 1) := by decide +kernel
theorem dX1_good_2 : decode cX1_good 2 = .ok (.ifCond .eq 7, 3) := by decide +kernel
theorem dX1_good_5 : decode cX1_good 5 = .ok (.iconst 0, 1) := by decide +kernel
theorem dX1_good_6 : decode cX1_good 6 = .ok (.goto 4, 3) := by decide +kernel
theorem dX1_good_9 : decode cX1_good 9 = .ok (.iconst 1, 1) := by decide +kernel
theorem dX1_good_10 : decode cX1_good 10 = .ok (.putfield 20, 3) := by decide +kernel
theorem dX1_good_13 : decode cX1_good 13 = .ok (.iload_n 1, 1) := by decide +kernel
theorem dX1_good_14 : decode cX1_good 14 = .ok (.ireturn, 1) := by decide +kernel
theorem dX1_keep_0 : decode cX1_keep 0 = .ok (.aload_n 0, 1) := by decide +kernel
theorem dX1_keep_1 : decode cX1_keep 1 = .ok (.getfield 23, 3) := by decide +kernel
theorem dX1_keep_4 : decode cX1_keep 4 = .ok (.sipush 300, 3) := by decide +kernel
theorem dX1_keep_7 : decode cX1_keep 7 = .ok (.if_icmp .ge 58, 3) := by decide +kernel
theorem dX1_keep_10 : decode cX1_keep 10 = .ok (.aload_n 0, 1) := by decide +kernel
theorem dX1_keep_11 : decode cX1_keep 11 = .ok (.getfield 13, 3) := by decide +kernel
theorem dX1_keep_14 : decode cX1_keep 14 = .ok (.iconst 4, 1) := by decide +kernel
theorem dX1_keep_15 : decode cX1_keep 15 = .ok (.aload_n 0, 1) := by decide +kernel
theorem dX1_keep_16 : decode cX1_keep 16 = .ok (.getfield 23, 3) := by decide +kernel
theorem dX1_keep_19 : decode cX1_keep 19 = .ok (.imul, 1) := by decide +kernel
theorem dX1_keep_20 : decode cX1_keep 20 = .ok (.iload_n 1, 1) := by decide +kernel
theorem dX1_keep_21 : decode cX1_keep 21 = .ok (.iastore, 1) := by decide +kernel
theorem dX1_keep_22 : decode cX1_keep 22 = .ok (.aload_n 0, 1) := by decide +kernel
theorem dX1_keep_23 : decode cX1_keep 23 = .ok (.getfield 13, 3) := by decide +kernel
theorem dX1_keep_26 : decode cX1_keep 26 = .ok (.iconst 4, 1) := by decide +kernel
theorem dX1_keep_27 : decode cX1_keep 27 = .ok (.aload_n 0, 1) := by decide +kernel
theorem dX1_keep_28 : decode cX1_keep 28 = .ok (.getfield 23, 3) := by decide +kernel
theorem dX1_keep_31 : decode cX1_keep 31 = .ok (.imul, 1) := by decide +kernel
theorem dX1_keep_32 : decode cX1_keep 32 = .ok (.iconst 1, 1) := by decide +kernel
theorem dX1_keep_33 : decode cX1_keep 33 = .ok (.iadd, 1) := by decide +kernel
theorem dX1_keep_34 : decode cX1_keep 34 = .ok (.iload_n 2, 1) := by decide +kernel
theorem dX1_keep_35 : decode cX1_keep 35 = .ok (.iastore, 1) := by decide +kernel
theorem dX1_keep_36 : decode cX1_keep 36 = .ok (.aload_n 0, 1) := by decide +kernel
theorem dX1_keep_37 : decode cX1_keep 37 = .ok (.getfield 13, 3) := by decide +kernel
theorem dX1_keep_40 : decode cX1_keep 40 = .ok (.iconst 4, 1) := by decide +kernel
theorem dX1_keep_41 : decode cX1_keep 41 = .ok (.aload_n 0, 1) := by decide +kernel
theorem dX1_keep_42 : decode cX1_keep 42 = .ok (.getfield 23, 3) := by decide +kernel
theorem dX1_keep_45 : decode cX1_keep 45 = .ok (.imul, 1) := by decide +kernel
theorem dX1_keep_46 : decode cX1_keep 46 = .ok (.iconst 2, 1) := by decide +kernel
theorem dX1_keep_47 : decode cX1_keep 47 = .ok (.iadd, 1) := by decide +kernel
theorem dX1_keep_48 : decode cX1_keep 48 = .ok (.iload_n 3, 1) := by decide +kernel
theorem dX1_keep_49 : decode cX1_keep 49 = .ok (.iastore, 1) := by decide +kernel
theorem dX1_keep_50 : decode cX1_keep 50 = .ok (.aload_n 0, 1) := by decide +kernel
theorem dX1_keep_51 : decode cX1_keep 51 = .ok (.getfield 13, 3) := by decide +kernel
theorem dX1_keep_54 : decode cX1_keep 54 = .ok (.iconst 4, 1) := by decide +kernel
theorem dX1_keep_55 : decode cX1_keep 55 = .ok (.aload_n 0, 1) := by decide +kernel
theorem dX1_keep_56 : decode cX1_keep 56 = .ok (.getfield 23, 3) := by decide +kernel
theorem dX1_keep_59 : decode cX1_keep 59 = .ok (.imul, 1) := by decide +kernel
theorem dX1_keep_60 : decode cX1_keep 60 = .ok (.iconst 3, 1) := by decide +kernel
theorem dX1_keep_61 : decode cX1_keep 61 = .ok (.iadd, 1) := by decide +kernel
theorem dX1_keep_62 : decode cX1_keep 62 = .ok (.iload 4, 2) := by decide +kernel
theorem dX1_keep_64 : decode cX1_keep 64 = .ok (.iastore, 1) := by decide +kernel
theorem dX1_keep_65 : decode cX1_keep 65 = .ok (.aload_n 0, 1) := by decide +kernel
theorem dX1_keep_66 : decode cX1_keep 66 = .ok (.dup, 1) := by decide +kernel
theorem dX1_keep_67 : decode cX1_keep 67 = .ok (.getfield 23, 3) := by decide +kernel
theorem dX1_keep_70 : decode cX1_keep 70 = .ok (.iconst 1, 1) := by decide +kernel
theorem dX1_keep_71 : decode cX1_keep 71 = .ok (.iadd, 1) := by decide +kernel
theorem dX1_keep_72 : decode cX1_keep 72 = .ok (.putfield 23, 3) := by decide +kernel
theorem dX1_keep_75 : decode cX1_keep 75 = .ok (.return_, 1) := by decide +kernel
set_option maxRecDepth 20000 in
theorem ggX1_lateralTo_X1_keep : GoodIn wsX1_lateralTo wsX1_keep := goodIn_r _ [7, 8, 9, 10, 11, 12, 13, 14, 15, 16, 17, 18, 19, 20, 21, 22, 23, 24] (by decide +kernel) (by decide +kernel)
set_option maxRecDepth 20000 in
theorem gX1_lateralTo_X1_keep : GoodIn wsX1_lateralTo (wsV RX1 29 RX1 yX1_keep wsX1_keep) := goodIn_app (goodIn_of _ (by decide +kernel)) ggX1_lateralTo_X1_keep
theorem dX1_lateralTo_0 : decode cX1_lateralTo 0 = .ok (.aload_n 0, 1) := by decide +kernel
theorem dX1_lateralTo_1 : decode cX1_lateralTo 1 = .ok (.getfield 26, 3) := by decide +kernel
theorem dX1_lateralTo_4 : decode cX1_lateralTo 4 = .ok (.iload_n 1, 1) := by decide +kernel
theorem dX1_lateralTo_5 : decode cX1_lateralTo 5 = .ok (.if_icmp .eq 37, 3) := by decide +kernel
theorem dX1_lateralTo_8 : decode cX1_lateralTo 8 = .ok (.aload_n 0, 1) := by decide +kernel
theorem dX1_lateralTo_9 : decode cX1_lateralTo 9 = .ok (.iconst 0, 1) := by decide +kernel
theorem dX1_lateralTo_10 : decode cX1_lateralTo 10 = .ok (.aload_n 0, 1) := by decide +kernel
theorem dX1_lateralTo_11 : decode cX1_lateralTo 11 = .ok (.getfield 26, 3) := by decide +kernel
theorem dX1_lateralTo_14 : decode cX1_lateralTo 14 = .ok (.iload_n 1, 1) := by decide +kernel
theorem dX1_lateralTo_15 : decode cX1_lateralTo 15 = .ok (.iload_n 2, 1) := by decide +kernel
theorem dX1_lateralTo_16 : decode cX1_lateralTo 16 = .ok (.invokevirtual 29, 3) := by decide +kernel
theorem dX1_lateralTo_19 : decode cX1_lateralTo 19 = .ok (.aload_n 0, 1) := by decide +kernel
theorem dX1_lateralTo_20 : decode cX1_lateralTo 20 = .ok (.iload_n 1, 1) := by decide +kernel
theorem dX1_lateralTo_21 : decode cX1_lateralTo 21 = .ok (.putfield 26, 3) := by decide +kernel
theorem dX1_lateralTo_24 : decode cX1_lateralTo 24 = .ok (.aload_n 0, 1) := by decide +kernel
theorem dX1_lateralTo_25 : decode cX1_lateralTo 25 = .ok (.iload_n 2, 1) := by decide +kernel
theorem dX1_lateralTo_26 : decode cX1_lateralTo 26 = .ok (.iconst 1, 1) := by decide +kernel
theorem dX1_lateralTo_27 : decode cX1_lateralTo 27 = .ok (.if_icmp .ne 8, 3) := by decide +kernel
theorem dX1_lateralTo_30 : decode cX1_lateralTo 30 = .ok (.bipush 10, 2) := by decide +kernel
theorem dX1_lateralTo_32 : decode cX1_lateralTo 32 = .ok (.goto 7, 3) := by decide +kernel
theorem dX1_lateralTo_35 : decode cX1_lateralTo 35 = .ok (.aload_n 0, 1) := by decide +kernel
theorem dX1_lateralTo_36 : decode cX1_lateralTo 36 = .ok (.getfield 33, 3) := by decide +kernel
theorem dX1_lateralTo_39 : decode cX1_lateralTo 39 = .ok (.putfield 33, 3) := by decide +kernel
theorem dX1_lateralTo_42 : decode cX1_lateralTo 42 = .ok (.return_, 1) := by decide +kernel
set_option maxRecDepth 20000 in
theorem ggX1_verticalTo_X1_keep : GoodIn wsX1_verticalTo wsX1_keep := goodIn_r _ [7, 8, 9, 10, 11, 12, 13, 14, 15, 16, 17, 18, 19, 20, 21, 22, 23, 24] (by decide +kernel) (by decide +kernel)
set_option maxRecDepth 20000 in
theorem gX1_verticalTo_X1_keep : GoodIn wsX1_verticalTo (wsV RX1 29 RX1 yX1_keep wsX1_keep) := goodIn_app (goodIn_of _ (by decide +kernel)) ggX1_verticalTo_X1_keep
theorem dX1_verticalTo_0 : decode cX1_verticalTo 0 = .ok (.aload_n 0, 1) := by decide +kernel
theorem dX1_verticalTo_1 : decode cX1_verticalTo 1 = .ok (.getfield 36, 3) := by decide +kernel
theorem dX1_verticalTo_4 : decode cX1_verticalTo 4 = .ok (.iload_n 1, 1) := by decide +kernel
theorem dX1_verticalTo_5 : decode cX1_verticalTo 5 = .ok (.if_icmp .eq 37, 3) := by decide +kernel
theorem dX1_verticalTo_8 : decode cX1_verticalTo 8 = .ok (.aload_n 0, 1) := by decide +kernel
theorem dX1_verticalTo_9 : decode cX1_verticalTo 9 = .ok (.iconst 1, 1) := by decide +kernel
theorem dX1_verticalTo_10 : decode cX1_verticalTo 10 = .ok (.aload_n 0, 1) := by decide +kernel
theorem dX1_verticalTo_11 : decode cX1_verticalTo 11 = .ok (.getfield 36, 3) := by decide +kernel
theorem dX1_verticalTo_14 : decode cX1_verticalTo 14 = .ok (.iload_n 1, 1) := by decide +kernel
theorem dX1_verticalTo_15 : decode cX1_verticalTo 15 = .ok (.iload_n 2, 1) := by decide +kernel
theorem dX1_verticalTo_16 : decode cX1_verticalTo 16 = .ok (.invokevirtual 29, 3) := by decide +kernel
theorem dX1_verticalTo_19 : decode cX1_verticalTo 19 = .ok (.aload_n 0, 1) := by decide +kernel
theorem dX1_verticalTo_20 : decode cX1_verticalTo 20 = .ok (.iload_n 1, 1) := by decide +kernel
theorem dX1_verticalTo_21 : decode cX1_verticalTo 21 = .ok (.putfield 36, 3) := by decide +kernel
theorem dX1_verticalTo_24 : decode cX1_verticalTo 24 = .ok (.aload_n 0, 1) := by decide +kernel
theorem dX1_verticalTo_25 : decode cX1_verticalTo 25 = .ok (.iload_n 2, 1) := by decide +kernel
theorem dX1_verticalTo_26 : decode cX1_verticalTo 26 = .ok (.iconst 1, 1) := by decide +kernel
theorem dX1_verticalTo_27 : decode cX1_verticalTo 27 = .ok (.if_icmp .ne 8, 3) := by decide +kernel
theorem dX1_verticalTo_30 : decode cX1_verticalTo 30 = .ok (.bipush 10, 2) := by decide +kernel
theorem dX1_verticalTo_32 : decode cX1_verticalTo 32 = .ok (.goto 7, 3) := by decide +kernel
theorem dX1_verticalTo_35 : decode cX1_verticalTo 35 = .ok (.aload_n 0, 1) := by decide +kernel
theorem dX1_verticalTo_36 : decode cX1_verticalTo 36 = .ok (.getfield 39, 3) := by decide +kernel
theorem dX1_verticalTo_39 : decode cX1_verticalTo 39 = .ok (.putfield 39, 3) := by decide +kernel
theorem dX1_verticalTo_42 : decode cX1_verticalTo 42 = .ok (.return_, 1) := by decide +kernel
theorem dX1_noneArmed_0 : decode cX1_noneArmed 0 = .ok (.aload_n 0, 1) := by decide +kernel
theorem dX1_noneArmed_1 : decode cX1_noneArmed 1 = .ok (.iconst 0, 1) := by decide +kernel
theorem dX1_noneArmed_2 : decode cX1_noneArmed 2 = .ok (.putfield 42, 3) := by decide +kernel
theorem dX1_noneArmed_5 : decode cX1_noneArmed 5 = .ok (.aload_n 0, 1) := by decide +kernel
theorem dX1_noneArmed_6 : decode cX1_noneArmed 6 = .ok (.iconst 0, 1) := by decide +kernel
theorem dX1_noneArmed_7 : decode cX1_noneArmed 7 = .ok (.putfield 45, 3) := by decide +kernel
theorem dX1_noneArmed_10 : decode cX1_noneArmed 10 = .ok (.return_, 1) := by decide +kernel
set_option maxRecDepth 20000 in
theorem ggX1_base_X1_noneArmed : GoodIn wsX1_base wsX1_noneArmed := goodIn_r _ [5, 6, 7, 26, 27, 28, 29, 30, 31, 32, 33, 34, 35, 36, 37, 38, 39, 40] (by decide +kernel) (by decide +kernel)
set_option maxRecDepth 20000 in
theorem gX1_base_X1_noneArmed : GoodIn wsX1_base (wsV RX1 49 RX1 yX1_noneArmed wsX1_noneArmed) := goodIn_app (goodIn_of _ (by decide +kernel)) ggX1_base_X1_noneArmed
set_option maxRecDepth 20000 in
theorem ggX1_base_X1_lateralTo : GoodIn wsX1_base wsX1_lateralTo := goodIn_r _ [11, 12, 13, 14, 15, 16, 4, 17, 18, 19, 26, 27, 28, 29, 30, 31, 32, 33, 34, 35, 36, 37, 38, 39, 40] (by decide +kernel) (by decide +kernel)
set_option maxRecDepth 20000 in
theorem gX1_base_X1_lateralTo : GoodIn wsX1_base (wsV RX1 52 RX1 yX1_lateralTo wsX1_lateralTo) := goodIn_app (goodIn_of _ (by decide +kernel)) ggX1_base_X1_lateralTo
set_option maxRecDepth 20000 in
theorem ggX1_base_X1_verticalTo : GoodIn wsX1_base wsX1_verticalTo := goodIn_r _ [23, 24, 25, 14, 15, 16, 4, 17, 18, 19, 26, 27, 28, 29, 30, 31, 32, 33, 34, 35, 36, 37, 38, 39, 40] (by decide +kernel) (by decide +kernel)
set_option maxRecDepth 20000 in
theorem gX1_base_X1_verticalTo : GoodIn wsX1_base (wsV RX1 56 RX1 yX1_verticalTo wsX1_verticalTo) := goodIn_app (goodIn_of _ (by decide +kernel)) ggX1_base_X1_verticalTo
theorem dX1_base_0 : decode cX1_base 0 = .ok (.aload_n 0, 1) := by decide +kernel
theorem dX1_base_1 : decode cX1_base 1 = .ok (.invokevirtual 49, 3) := by decide +kernel
theorem dX1_base_4 : decode cX1_base 4 = .ok (.aload_n 0, 1) := by decide +kernel
theorem dX1_base_5 : decode cX1_base 5 = .ok (.iconst 1, 1) := by decide +kernel
theorem dX1_base_6 : decode cX1_base 6 = .ok (.iload_n 1, 1) := by decide +kernel
theorem dX1_base_7 : decode cX1_base 7 = .ok (.invokevirtual 52, 3) := by decide +kernel
theorem dX1_base_10 : decode cX1_base 10 = .ok (.aload_n 0, 1) := by decide +kernel
theorem dX1_base_11 : decode cX1_base 11 = .ok (.iconst 1, 1) := by decide +kernel
theorem dX1_base_12 : decode cX1_base 12 = .ok (.iload_n 1, 1) := by decide +kernel
theorem dX1_base_13 : decode cX1_base 13 = .ok (.invokevirtual 56, 3) := by decide +kernel
theorem dX1_base_16 : decode cX1_base 16 = .ok (.return_, 1) := by decide +kernel
set_option maxRecDepth 20000 in
theorem ggX1_goOff_X1_noneArmed : GoodIn wsX1_goOff wsX1_noneArmed := goodIn_r _ [9, 10, 11, 28, 29, 30, 31, 32, 33, 34, 35, 36, 37, 38, 39, 40, 41, 42] (by decide +kernel) (by decide +kernel)
set_option maxRecDepth 20000 in
theorem gX1_goOff_X1_noneArmed : GoodIn wsX1_goOff (wsV RX1 49 RX1 yX1_noneArmed wsX1_noneArmed) := goodIn_app (goodIn_of _ (by decide +kernel)) ggX1_goOff_X1_noneArmed
set_option maxRecDepth 20000 in
theorem ggX1_goOff_X1_lateralTo : GoodIn wsX1_goOff wsX1_lateralTo := goodIn_r _ [15, 16, 3, 17, 18, 19, 8, 20, 21, 22, 28, 29, 30, 31, 32, 33, 34, 35, 36, 37, 38, 39, 40, 41, 42] (by decide +kernel) (by decide +kernel)
set_option maxRecDepth 20000 in
theorem gX1_goOff_X1_lateralTo : GoodIn wsX1_goOff (wsV RX1 52 RX1 yX1_lateralTo wsX1_lateralTo) := goodIn_app (goodIn_of _ (by decide +kernel)) ggX1_goOff_X1_lateralTo
set_option maxRecDepth 20000 in
theorem ggX1_goOff_X1_verticalTo : GoodIn wsX1_goOff wsX1_verticalTo := goodIn_r _ [26, 27, 4, 17, 18, 19, 8, 20, 21, 22, 28, 29, 30, 31, 32, 33, 34, 35, 36, 37, 38, 39, 40, 41, 42] (by decide +kernel) (by decide +kernel)
set_option maxRecDepth 20000 in
theorem gX1_goOff_X1_verticalTo : GoodIn wsX1_goOff (wsV RX1 56 RX1 yX1_verticalTo wsX1_verticalTo) := goodIn_app (goodIn_of _ (by decide +kernel)) ggX1_goOff_X1_verticalTo
theorem dX1_goOff_0 : decode cX1_goOff 0 = .ok (.aload_n 0, 1) := by decide +kernel
theorem dX1_goOff_1 : decode cX1_goOff 1 = .ok (.invokevirtual 49, 3) := by decide +kernel
theorem dX1_goOff_4 : decode cX1_goOff 4 = .ok (.aload_n 0, 1) := by decide +kernel
theorem dX1_goOff_5 : decode cX1_goOff 5 = .ok (.aload_n 0, 1) := by decide +kernel
theorem dX1_goOff_6 : decode cX1_goOff 6 = .ok (.getfield 59, 3) := by decide +kernel
theorem dX1_goOff_9 : decode cX1_goOff 9 = .ok (.ifCond .ne 10, 3) := by decide +kernel
theorem dX1_goOff_12 : decode cX1_goOff 12 = .ok (.aload_n 0, 1) := by decide +kernel
theorem dX1_goOff_13 : decode cX1_goOff 13 = .ok (.getfield 62, 3) := by decide +kernel
theorem dX1_goOff_16 : decode cX1_goOff 16 = .ok (.ifCond .eq 7, 3) := by decide +kernel
theorem dX1_goOff_19 : decode cX1_goOff 19 = .ok (.iconst 1, 1) := by decide +kernel
theorem dX1_goOff_20 : decode cX1_goOff 20 = .ok (.goto 4, 3) := by decide +kernel
theorem dX1_goOff_23 : decode cX1_goOff 23 = .ok (.iconst 0, 1) := by decide +kernel
theorem dX1_goOff_24 : decode cX1_goOff 24 = .ok (.putfield 59, 3) := by decide +kernel
theorem dX1_goOff_27 : decode cX1_goOff 27 = .ok (.aload_n 0, 1) := by decide +kernel
theorem dX1_goOff_28 : decode cX1_goOff 28 = .ok (.iconst 0, 1) := by decide +kernel
theorem dX1_goOff_29 : decode cX1_goOff 29 = .ok (.putfield 62, 3) := by decide +kernel
theorem dX1_goOff_32 : decode cX1_goOff 32 = .ok (.aload_n 0, 1) := by decide +kernel
theorem dX1_goOff_33 : decode cX1_goOff 33 = .ok (.iconst 0, 1) := by decide +kernel
theorem dX1_goOff_34 : decode cX1_goOff 34 = .ok (.iload_n 1, 1) := by decide +kernel
theorem dX1_goOff_35 : decode cX1_goOff 35 = .ok (.invokevirtual 52, 3) := by decide +kernel
theorem dX1_goOff_38 : decode cX1_goOff 38 = .ok (.aload_n 0, 1) := by decide +kernel
theorem dX1_goOff_39 : decode cX1_goOff 39 = .ok (.iconst 0, 1) := by decide +kernel
theorem dX1_goOff_40 : decode cX1_goOff 40 = .ok (.iload_n 1, 1) := by decide +kernel
theorem dX1_goOff_41 : decode cX1_goOff 41 = .ok (.invokevirtual 56, 3) := by decide +kernel
theorem dX1_goOff_44 : decode cX1_goOff 44 = .ok (.aload_n 0, 1) := by decide +kernel
theorem dX1_goOff_45 : decode cX1_goOff 45 = .ok (.iconst 0, 1) := by decide +kernel
theorem dX1_goOff_46 : decode cX1_goOff 46 = .ok (.putfield 33, 3) := by decide +kernel
theorem dX1_goOff_49 : decode cX1_goOff 49 = .ok (.aload_n 0, 1) := by decide +kernel
theorem dX1_goOff_50 : decode cX1_goOff 50 = .ok (.iconst 0, 1) := by decide +kernel
theorem dX1_goOff_51 : decode cX1_goOff 51 = .ok (.putfield 39, 3) := by decide +kernel
theorem dX1_goOff_54 : decode cX1_goOff 54 = .ok (.return_, 1) := by decide +kernel
theorem dX1_isBad_0 : decode cX1_isBad 0 = .ok (.iload_n 1, 1) := by decide +kernel
theorem dX1_isBad_1 : decode cX1_isBad 1 = .ok (.ifCond .ne 10, 3) := by decide +kernel
theorem dX1_isBad_4 : decode cX1_isBad 4 = .ok (.aload_n 0, 1) := by decide +kernel
theorem dX1_isBad_5 : decode cX1_isBad 5 = .ok (.getfield 65, 3) := by decide +kernel
theorem dX1_isBad_8 : decode cX1_isBad 8 = .ok (.goto 7, 3) := by decide +kernel
theorem dX1_isBad_11 : decode cX1_isBad 11 = .ok (.aload_n 0, 1) := by decide +kernel
theorem dX1_isBad_12 : decode cX1_isBad 12 = .ok (.getfield 68, 3) := by decide +kernel
theorem dX1_isBad_15 : decode cX1_isBad 15 = .ok (.ireturn, 1) := by decide +kernel
theorem dX1_size_0 : decode cX1_size 0 = .ok (.iload_n 0, 1) := by decide +kernel
theorem dX1_size_1 : decode cX1_size 1 = .ok (.ifCond .ge 8, 3) := by decide +kernel
theorem dX1_size_4 : decode cX1_size 4 = .ok (.iload_n 0, 1) := by decide +kernel
theorem dX1_size_5 : decode cX1_size 5 = .ok (.ineg, 1) := by decide +kernel
theorem dX1_size_6 : decode cX1_size 6 = .ok (.goto 4, 3) := by decide +kernel
theorem dX1_size_9 : decode cX1_size 9 = .ok (.iload_n 0, 1) := by decide +kernel
theorem dX1_size_10 : decode cX1_size 10 = .ok (.ireturn, 1) := by decide +kernel
set_option maxRecDepth 20000 in
theorem ggX1_apart_X1_size : GoodIn wsX1_apart wsX1_size := goodIn_r _ [5] (by decide +kernel) (by decide +kernel)
set_option maxRecDepth 20000 in
theorem gX1_apart_X1_size : GoodIn wsX1_apart (va_wsS RX1 71 yX1_size wsX1_size) := goodIn_app (goodIn_of _ (by decide +kernel)) ggX1_apart_X1_size
theorem dX1_apart_0 : decode cX1_apart 0 = .ok (.aload_n 0, 1) := by decide +kernel
theorem dX1_apart_1 : decode cX1_apart 1 = .ok (.getfield 7, 3) := by decide +kernel
theorem dX1_apart_4 : decode cX1_apart 4 = .ok (.iconst 2, 1) := by decide +kernel
theorem dX1_apart_5 : decode cX1_apart 5 = .ok (.iaload, 1) := by decide +kernel
theorem dX1_apart_6 : decode cX1_apart 6 = .ok (.aload_n 0, 1) := by decide +kernel
theorem dX1_apart_7 : decode cX1_apart 7 = .ok (.getfield 7, 3) := by decide +kernel
theorem dX1_apart_10 : decode cX1_apart 10 = .ok (.iconst 3, 1) := by decide +kernel
theorem dX1_apart_11 : decode cX1_apart 11 = .ok (.iaload, 1) := by decide +kernel
theorem dX1_apart_12 : decode cX1_apart 12 = .ok (.isub, 1) := by decide +kernel
theorem dX1_apart_13 : decode cX1_apart 13 = .ok (.invokestatic 71, 3) := by decide +kernel
theorem dX1_apart_16 : decode cX1_apart 16 = .ok (.ireturn, 1) := by decide +kernel
set_option maxRecDepth 20000 in
theorem ggX1_rule_X1_isBad : GoodIn wsX1_rule wsX1_isBad := goodIn_r _ [11, 12, 13, 21, 22, 23, 24, 25, 26, 27, 28, 29, 30, 31, 32, 33, 34, 35] (by decide +kernel) (by decide +kernel)
set_option maxRecDepth 20000 in
theorem gX1_rule_X1_isBad : GoodIn wsX1_rule (wsV RX1 75 RX1 yX1_isBad wsX1_isBad) := goodIn_app (goodIn_of _ (by decide +kernel)) ggX1_rule_X1_isBad
set_option maxRecDepth 20000 in
theorem ggX1_rule_X1_size : GoodIn wsX1_rule wsX1_size := goodIn_r _ [16] (by decide +kernel) (by decide +kernel)
set_option maxRecDepth 20000 in
theorem gX1_rule_X1_size : GoodIn wsX1_rule (va_wsS RX1 71 yX1_size wsX1_size) := goodIn_app (goodIn_of _ (by decide +kernel)) ggX1_rule_X1_size
set_option maxRecDepth 20000 in
theorem ggX1_rule_X1_apart : GoodIn wsX1_rule wsX1_apart := goodIn_r _ [20, 1, 14, 15, 10, 16, 21, 22, 23, 24, 25, 26, 27, 28, 29, 30, 31, 32, 33, 34, 35] (by decide +kernel) (by decide +kernel)
set_option maxRecDepth 20000 in
theorem gX1_rule_X1_apart : GoodIn wsX1_rule (wsV RX1 79 RX1 yX1_apart wsX1_apart) := goodIn_app (goodIn_of _ (by decide +kernel)) ggX1_rule_X1_apart
theorem dX1_rule_0 : decode cX1_rule 0 = .ok (.aload_n 0, 1) := by decide +kernel
theorem dX1_rule_1 : decode cX1_rule 1 = .ok (.getfield 7, 3) := by decide +kernel
theorem dX1_rule_4 : decode cX1_rule 4 = .ok (.iconst 5, 1) := by decide +kernel
theorem dX1_rule_5 : decode cX1_rule 5 = .ok (.iaload, 1) := by decide +kernel
theorem dX1_rule_6 : decode cX1_rule 6 = .ok (.iconst 1, 1) := by decide +kernel
theorem dX1_rule_7 : decode cX1_rule 7 = .ok (.if_icmp .ne 7, 3) := by decide +kernel
theorem dX1_rule_10 : decode cX1_rule 10 = .ok (.iconst 1, 1) := by decide +kernel
theorem dX1_rule_11 : decode cX1_rule 11 = .ok (.goto 4, 3) := by decide +kernel
theorem dX1_rule_14 : decode cX1_rule 14 = .ok (.iconst 0, 1) := by decide +kernel
theorem dX1_rule_15 : decode cX1_rule 15 = .ok (.istore_n 1, 1) := by decide +kernel
theorem dX1_rule_16 : decode cX1_rule 16 = .ok (.aload_n 0, 1) := by decide +kernel
theorem dX1_rule_17 : decode cX1_rule 17 = .ok (.getfield 7, 3) := by decide +kernel
theorem dX1_rule_20 : decode cX1_rule 20 = .ok (.bipush 6, 2) := by decide +kernel
theorem dX1_rule_22 : decode cX1_rule 22 = .ok (.iaload, 1) := by decide +kernel
theorem dX1_rule_23 : decode cX1_rule 23 = .ok (.iconst 1, 1) := by decide +kernel
theorem dX1_rule_24 : decode cX1_rule 24 = .ok (.if_icmp .ne 7, 3) := by decide +kernel
theorem dX1_rule_27 : decode cX1_rule 27 = .ok (.iconst 1, 1) := by decide +kernel
theorem dX1_rule_28 : decode cX1_rule 28 = .ok (.goto 4, 3) := by decide +kernel
theorem dX1_rule_31 : decode cX1_rule 31 = .ok (.iconst 0, 1) := by decide +kernel
theorem dX1_rule_32 : decode cX1_rule 32 = .ok (.istore_n 2, 1) := by decide +kernel
theorem dX1_rule_33 : decode cX1_rule 33 = .ok (.aload_n 0, 1) := by decide +kernel
theorem dX1_rule_34 : decode cX1_rule 34 = .ok (.getfield 26, 3) := by decide +kernel
theorem dX1_rule_37 : decode cX1_rule 37 = .ok (.ifCond .le 16, 3) := by decide +kernel
theorem dX1_rule_40 : decode cX1_rule 40 = .ok (.aload_n 0, 1) := by decide +kernel
theorem dX1_rule_41 : decode cX1_rule 41 = .ok (.aload_n 0, 1) := by decide +kernel
theorem dX1_rule_42 : decode cX1_rule 42 = .ok (.getfield 16, 3) := by decide +kernel
theorem dX1_rule_45 : decode cX1_rule 45 = .ok (.invokevirtual 75, 3) := by decide +kernel
theorem dX1_rule_48 : decode cX1_rule 48 = .ok (.ifCond .eq 5, 3) := by decide +kernel
theorem dX1_rule_51 : decode cX1_rule 51 = .ok (.iconst 1, 1) := by decide +kernel
theorem dX1_rule_52 : decode cX1_rule 52 = .ok (.ireturn, 1) := by decide +kernel
theorem dX1_rule_53 : decode cX1_rule 53 = .ok (.aload_n 0, 1) := by decide +kernel
theorem dX1_rule_54 : decode cX1_rule 54 = .ok (.getfield 26, 3) := by decide +kernel
theorem dX1_rule_57 : decode cX1_rule 57 = .ok (.iconst 3, 1) := by decide +kernel
theorem dX1_rule_58 : decode cX1_rule 58 = .ok (.if_icmp .eq 11, 3) := by decide +kernel
theorem dX1_rule_61 : decode cX1_rule 61 = .ok (.aload_n 0, 1) := by decide +kernel
theorem dX1_rule_62 : decode cX1_rule 62 = .ok (.getfield 26, 3) := by decide +kernel
theorem dX1_rule_65 : decode cX1_rule 65 = .ok (.iconst 4, 1) := by decide +kernel
theorem dX1_rule_66 : decode cX1_rule 66 = .ok (.if_icmp .ne 9, 3) := by decide +kernel
theorem dX1_rule_69 : decode cX1_rule 69 = .ok (.iload_n 1, 1) := by decide +kernel
theorem dX1_rule_70 : decode cX1_rule 70 = .ok (.ifCond .ne 5, 3) := by decide +kernel
theorem dX1_rule_73 : decode cX1_rule 73 = .ok (.iconst 2, 1) := by decide +kernel
theorem dX1_rule_74 : decode cX1_rule 74 = .ok (.ireturn, 1) := by decide +kernel
theorem dX1_rule_75 : decode cX1_rule 75 = .ok (.aload_n 0, 1) := by decide +kernel
theorem dX1_rule_76 : decode cX1_rule 76 = .ok (.getfield 36, 3) := by decide +kernel
theorem dX1_rule_79 : decode cX1_rule 79 = .ok (.bipush 6, 2) := by decide +kernel
theorem dX1_rule_81 : decode cX1_rule 81 = .ok (.if_icmp .ne 17, 3) := by decide +kernel
theorem dX1_rule_84 : decode cX1_rule 84 = .ok (.iload_n 2, 1) := by decide +kernel
theorem dX1_rule_85 : decode cX1_rule 85 = .ok (.ifCond .eq 11, 3) := by decide +kernel
theorem dX1_rule_88 : decode cX1_rule 88 = .ok (.aload_n 0, 1) := by decide +kernel
theorem dX1_rule_89 : decode cX1_rule 89 = .ok (.getfield 26, 3) := by decide +kernel
theorem dX1_rule_92 : decode cX1_rule 92 = .ok (.iconst 4, 1) := by decide +kernel
theorem dX1_rule_93 : decode cX1_rule 93 = .ok (.if_icmp .eq 5, 3) := by decide +kernel
theorem dX1_rule_96 : decode cX1_rule 96 = .ok (.iconst 3, 1) := by decide +kernel
theorem dX1_rule_97 : decode cX1_rule 97 = .ok (.ireturn, 1) := by decide +kernel
theorem dX1_rule_98 : decode cX1_rule 98 = .ok (.aload_n 0, 1) := by decide +kernel
theorem dX1_rule_99 : decode cX1_rule 99 = .ok (.getfield 42, 3) := by decide +kernel
theorem dX1_rule_102 : decode cX1_rule 102 = .ok (.iconst 1, 1) := by decide +kernel
theorem dX1_rule_103 : decode cX1_rule 103 = .ok (.if_icmp .ne 24, 3) := by decide +kernel
theorem dX1_rule_106 : decode cX1_rule 106 = .ok (.iload_n 1, 1) := by decide +kernel
theorem dX1_rule_107 : decode cX1_rule 107 = .ok (.ifCond .eq 20, 3) := by decide +kernel
theorem dX1_rule_110 : decode cX1_rule 110 = .ok (.aload_n 0, 1) := by decide +kernel
theorem dX1_rule_111 : decode cX1_rule 111 = .ok (.getfield 7, 3) := by decide +kernel
theorem dX1_rule_114 : decode cX1_rule 114 = .ok (.iconst 0, 1) := by decide +kernel
theorem dX1_rule_115 : decode cX1_rule 115 = .ok (.iaload, 1) := by decide +kernel
theorem dX1_rule_116 : decode cX1_rule 116 = .ok (.invokestatic 71, 3) := by decide +kernel
theorem dX1_rule_119 : decode cX1_rule 119 = .ok (.sipush 150, 3) := by decide +kernel
theorem dX1_rule_122 : decode cX1_rule 122 = .ok (.if_icmp .gt 5, 3) := by decide +kernel
theorem dX1_rule_125 : decode cX1_rule 125 = .ok (.iconst 4, 1) := by decide +kernel
theorem dX1_rule_126 : decode cX1_rule 126 = .ok (.ireturn, 1) := by decide +kernel
theorem dX1_rule_127 : decode cX1_rule 127 = .ok (.aload_n 0, 1) := by decide +kernel
theorem dX1_rule_128 : decode cX1_rule 128 = .ok (.getfield 42, 3) := by decide +kernel
theorem dX1_rule_131 : decode cX1_rule 131 = .ok (.iconst 2, 1) := by decide +kernel
theorem dX1_rule_132 : decode cX1_rule 132 = .ok (.if_icmp .ne 23, 3) := by decide +kernel
theorem dX1_rule_135 : decode cX1_rule 135 = .ok (.iload_n 1, 1) := by decide +kernel
theorem dX1_rule_136 : decode cX1_rule 136 = .ok (.ifCond .eq 19, 3) := by decide +kernel
theorem dX1_rule_139 : decode cX1_rule 139 = .ok (.aload_n 0, 1) := by decide +kernel
theorem dX1_rule_140 : decode cX1_rule 140 = .ok (.getfield 7, 3) := by decide +kernel
theorem dX1_rule_143 : decode cX1_rule 143 = .ok (.iconst 0, 1) := by decide +kernel
theorem dX1_rule_144 : decode cX1_rule 144 = .ok (.iaload, 1) := by decide +kernel
theorem dX1_rule_145 : decode cX1_rule 145 = .ok (.invokestatic 71, 3) := by decide +kernel
theorem dX1_rule_148 : decode cX1_rule 148 = .ok (.bipush 100, 2) := by decide +kernel
theorem dX1_rule_150 : decode cX1_rule 150 = .ok (.if_icmp .gt 5, 3) := by decide +kernel
theorem dX1_rule_153 : decode cX1_rule 153 = .ok (.iconst 5, 1) := by decide +kernel
theorem dX1_rule_154 : decode cX1_rule 154 = .ok (.ireturn, 1) := by decide +kernel
theorem dX1_rule_155 : decode cX1_rule 155 = .ok (.aload_n 0, 1) := by decide +kernel
theorem dX1_rule_156 : decode cX1_rule 156 = .ok (.getfield 45, 3) := by decide +kernel
theorem dX1_rule_159 : decode cX1_rule 159 = .ok (.ifCond .eq 32, 3) := by decide +kernel
theorem dX1_rule_162 : decode cX1_rule 162 = .ok (.aload_n 0, 1) := by decide +kernel
theorem dX1_rule_163 : decode cX1_rule 163 = .ok (.getfield 26, 3) := by decide +kernel
theorem dX1_rule_166 : decode cX1_rule 166 = .ok (.iconst 4, 1) := by decide +kernel
theorem dX1_rule_167 : decode cX1_rule 167 = .ok (.if_icmp .ne 24, 3) := by decide +kernel
theorem dX1_rule_170 : decode cX1_rule 170 = .ok (.iload_n 2, 1) := by decide +kernel
theorem dX1_rule_171 : decode cX1_rule 171 = .ok (.ifCond .eq 20, 3) := by decide +kernel
theorem dX1_rule_174 : decode cX1_rule 174 = .ok (.aload_n 0, 1) := by decide +kernel
theorem dX1_rule_175 : decode cX1_rule 175 = .ok (.getfield 7, 3) := by decide +kernel
theorem dX1_rule_178 : decode cX1_rule 178 = .ok (.iconst 1, 1) := by decide +kernel
theorem dX1_rule_179 : decode cX1_rule 179 = .ok (.iaload, 1) := by decide +kernel
theorem dX1_rule_180 : decode cX1_rule 180 = .ok (.invokestatic 71, 3) := by decide +kernel
theorem dX1_rule_183 : decode cX1_rule 183 = .ok (.bipush 80, 2) := by decide +kernel
theorem dX1_rule_185 : decode cX1_rule 185 = .ok (.if_icmp .gt 6, 3) := by decide +kernel
theorem dX1_rule_188 : decode cX1_rule 188 = .ok (.bipush 6, 2) := by decide +kernel
theorem dX1_rule_190 : decode cX1_rule 190 = .ok (.ireturn, 1) := by decide +kernel
theorem dX1_rule_191 : decode cX1_rule 191 = .ok (.aload_n 0, 1) := by decide +kernel
theorem dX1_rule_192 : decode cX1_rule 192 = .ok (.getfield 36, 3) := by decide +kernel
theorem dX1_rule_195 : decode cX1_rule 195 = .ok (.ifCond .le 24, 3) := by decide +kernel
theorem dX1_rule_198 : decode cX1_rule 198 = .ok (.aload_n 0, 1) := by decide +kernel
theorem dX1_rule_199 : decode cX1_rule 199 = .ok (.getfield 36, 3) := by decide +kernel
theorem dX1_rule_202 : decode cX1_rule 202 = .ok (.iconst 4, 1) := by decide +kernel
theorem dX1_rule_203 : decode cX1_rule 203 = .ok (.if_icmp .ge 16, 3) := by decide +kernel
theorem dX1_rule_206 : decode cX1_rule 206 = .ok (.aload_n 0, 1) := by decide +kernel
theorem dX1_rule_207 : decode cX1_rule 207 = .ok (.invokevirtual 79, 3) := by decide +kernel
theorem dX1_rule_210 : decode cX1_rule 210 = .ok (.sipush 400, 3) := by decide +kernel
theorem dX1_rule_213 : decode cX1_rule 213 = .ok (.if_icmp .gt 6, 3) := by decide +kernel
theorem dX1_rule_216 : decode cX1_rule 216 = .ok (.bipush 7, 2) := by decide +kernel
theorem dX1_rule_218 : decode cX1_rule 218 = .ok (.ireturn, 1) := by decide +kernel
theorem dX1_rule_219 : decode cX1_rule 219 = .ok (.aload_n 0, 1) := by decide +kernel
theorem dX1_rule_220 : decode cX1_rule 220 = .ok (.getfield 36, 3) := by decide +kernel
theorem dX1_rule_223 : decode cX1_rule 223 = .ok (.iconst 5, 1) := by decide +kernel
theorem dX1_rule_224 : decode cX1_rule 224 = .ok (.if_icmp .ne 15, 3) := by decide +kernel
theorem dX1_rule_227 : decode cX1_rule 227 = .ok (.aload_n 0, 1) := by decide +kernel
theorem dX1_rule_228 : decode cX1_rule 228 = .ok (.invokevirtual 79, 3) := by decide +kernel
theorem dX1_rule_231 : decode cX1_rule 231 = .ok (.bipush 20, 2) := by decide +kernel
theorem dX1_rule_233 : decode cX1_rule 233 = .ok (.if_icmp .gt 6, 3) := by decide +kernel
theorem dX1_rule_236 : decode cX1_rule 236 = .ok (.bipush 8, 2) := by decide +kernel
theorem dX1_rule_238 : decode cX1_rule 238 = .ok (.ireturn, 1) := by decide +kernel
theorem dX1_rule_239 : decode cX1_rule 239 = .ok (.aload_n 0, 1) := by decide +kernel
theorem dX1_rule_240 : decode cX1_rule 240 = .ok (.getfield 36, 3) := by decide +kernel
theorem dX1_rule_243 : decode cX1_rule 243 = .ok (.iconst 5, 1) := by decide +kernel
theorem dX1_rule_244 : decode cX1_rule 244 = .ok (.if_icmp .ne 16, 3) := by decide +kernel
theorem dX1_rule_247 : decode cX1_rule 247 = .ok (.aload_n 0, 1) := by decide +kernel
theorem dX1_rule_248 : decode cX1_rule 248 = .ok (.invokevirtual 79, 3) := by decide +kernel
theorem dX1_rule_251 : decode cX1_rule 251 = .ok (.sipush 400, 3) := by decide +kernel
theorem dX1_rule_254 : decode cX1_rule 254 = .ok (.if_icmp .le 6, 3) := by decide +kernel
theorem dX1_rule_257 : decode cX1_rule 257 = .ok (.bipush 9, 2) := by decide +kernel
theorem dX1_rule_259 : decode cX1_rule 259 = .ok (.ireturn, 1) := by decide +kernel
theorem dX1_rule_260 : decode cX1_rule 260 = .ok (.aload_n 0, 1) := by decide +kernel
theorem dX1_rule_261 : decode cX1_rule 261 = .ok (.getfield 36, 3) := by decide +kernel
theorem dX1_rule_264 : decode cX1_rule 264 = .ok (.iconst 2, 1) := by decide +kernel
theorem dX1_rule_265 : decode cX1_rule 265 = .ok (.if_icmp .ne 20, 3) := by decide +kernel
theorem dX1_rule_268 : decode cX1_rule 268 = .ok (.aload_n 0, 1) := by decide +kernel
theorem dX1_rule_269 : decode cX1_rule 269 = .ok (.getfield 7, 3) := by decide +kernel
theorem dX1_rule_272 : decode cX1_rule 272 = .ok (.iconst 4, 1) := by decide +kernel
theorem dX1_rule_273 : decode cX1_rule 273 = .ok (.iaload, 1) := by decide +kernel
theorem dX1_rule_274 : decode cX1_rule 274 = .ok (.sipush 400, 3) := by decide +kernel
theorem dX1_rule_277 : decode cX1_rule 277 = .ok (.if_icmp .le 8, 3) := by decide +kernel
theorem dX1_rule_280 : decode cX1_rule 280 = .ok (.bipush 10, 2) := by decide +kernel
theorem dX1_rule_282 : decode cX1_rule 282 = .ok (.goto 4, 3) := by decide +kernel
theorem dX1_rule_285 : decode cX1_rule 285 = .ok (.iconst 0, 1) := by decide +kernel
theorem dX1_rule_286 : decode cX1_rule 286 = .ok (.ireturn, 1) := by decide +kernel
set_option maxRecDepth 20000 in
theorem ggX1_comes_X1_isBad : GoodIn wsX1_comes wsX1_isBad := goodIn_r _ [9, 10, 11, 39, 40, 41, 42, 43, 44, 45, 46, 47, 48, 49, 50, 51, 52, 53] (by decide +kernel) (by decide +kernel)
set_option maxRecDepth 20000 in
theorem gX1_comes_X1_isBad : GoodIn wsX1_comes (wsV RX1 75 RX1 yX1_isBad wsX1_isBad) := goodIn_app (goodIn_of _ (by decide +kernel)) ggX1_comes_X1_isBad
set_option maxRecDepth 20000 in
theorem ggX1_comes_X1_goOff : GoodIn wsX1_comes wsX1_goOff := goodIn_r _ [15, 16, 17, 18, 19, 20, 21, 22, 8, 23, 4, 3, 24, 25, 26, 27, 28, 29, 30, 31, 32, 33, 34, 35, 36, 37, 38, 2, 39, 40, 41, 42, 43, 44, 45, 46, 47, 48, 49, 50, 51, 52, 53] (by decide +kernel) (by decide +kernel)
set_option maxRecDepth 20000 in
theorem gX1_comes_X1_goOff : GoodIn wsX1_comes (wsV RX1 83 RX1 yX1_goOff wsX1_goOff) := goodIn_app (goodIn_of _ (by decide +kernel)) ggX1_comes_X1_goOff
set_option maxRecDepth 20000 in
theorem ggX1_comes_X1_lateralTo : GoodIn wsX1_comes wsX1_lateralTo := goodIn_r _ [27, 28, 18, 29, 30, 31, 8, 32, 33, 34, 39, 40, 41, 42, 43, 44, 45, 46, 47, 48, 49, 50, 51, 52, 53] (by decide +kernel) (by decide +kernel)
set_option maxRecDepth 20000 in
theorem gX1_comes_X1_lateralTo : GoodIn wsX1_comes (wsV RX1 52 RX1 yX1_lateralTo wsX1_lateralTo) := goodIn_app (goodIn_of _ (by decide +kernel)) ggX1_comes_X1_lateralTo
set_option maxRecDepth 20000 in
theorem ggX1_comes_X1_verticalTo : GoodIn wsX1_comes wsX1_verticalTo := goodIn_r _ [38, 2, 19, 29, 30, 31, 8, 32, 33, 34, 39, 40, 41, 42, 43, 44, 45, 46, 47, 48, 49, 50, 51, 52, 53] (by decide +kernel) (by decide +kernel)
set_option maxRecDepth 20000 in
theorem gX1_comes_X1_verticalTo : GoodIn wsX1_comes (wsV RX1 56 RX1 yX1_verticalTo wsX1_verticalTo) := goodIn_app (goodIn_of _ (by decide +kernel)) ggX1_comes_X1_verticalTo
theorem dX1_comes_0 : decode cX1_comes 0 = .ok (.iload_n 1, 1) := by decide +kernel
theorem dX1_comes_1 : decode cX1_comes 1 = .ok (.tableswitch 212 1 9 #[51, 85, 133, 142, 156, 170, 185, 194, 203], 51) := by decide +kernel
theorem dX1_comes_52 : decode cX1_comes 52 = .ok (.aload_n 0, 1) := by decide +kernel
theorem dX1_comes_53 : decode cX1_comes 53 = .ok (.iconst 1, 1) := by decide +kernel
theorem dX1_comes_54 : decode cX1_comes 54 = .ok (.aload_n 0, 1) := by decide +kernel
theorem dX1_comes_55 : decode cX1_comes 55 = .ok (.getfield 16, 3) := by decide +kernel
theorem dX1_comes_58 : decode cX1_comes 58 = .ok (.isub, 1) := by decide +kernel
theorem dX1_comes_59 : decode cX1_comes 59 = .ok (.invokevirtual 75, 3) := by decide +kernel
theorem dX1_comes_62 : decode cX1_comes 62 = .ok (.ifCond .eq 11, 3) := by decide +kernel
theorem dX1_comes_65 : decode cX1_comes 65 = .ok (.aload_n 0, 1) := by decide +kernel
theorem dX1_comes_66 : decode cX1_comes 66 = .ok (.iconst 1, 1) := by decide +kernel
theorem dX1_comes_67 : decode cX1_comes 67 = .ok (.invokevirtual 83, 3) := by decide +kernel
theorem dX1_comes_70 : decode cX1_comes 70 = .ok (.goto 149, 3) := by decide +kernel
theorem dX1_comes_73 : decode cX1_comes 73 = .ok (.aload_n 0, 1) := by decide +kernel
theorem dX1_comes_74 : decode cX1_comes 74 = .ok (.iconst 1, 1) := by decide +kernel
theorem dX1_comes_75 : decode cX1_comes 75 = .ok (.aload_n 0, 1) := by decide +kernel
theorem dX1_comes_76 : decode cX1_comes 76 = .ok (.getfield 16, 3) := by decide +kernel
theorem dX1_comes_79 : decode cX1_comes 79 = .ok (.isub, 1) := by decide +kernel
theorem dX1_comes_80 : decode cX1_comes 80 = .ok (.putfield 16, 3) := by decide +kernel
theorem dX1_comes_83 : decode cX1_comes 83 = .ok (.goto 136, 3) := by decide +kernel
theorem dX1_comes_86 : decode cX1_comes 86 = .ok (.aload_n 0, 1) := by decide +kernel
theorem dX1_comes_87 : decode cX1_comes 87 = .ok (.iconst 1, 1) := by decide +kernel
theorem dX1_comes_88 : decode cX1_comes 88 = .ok (.iconst 1, 1) := by decide +kernel
theorem dX1_comes_89 : decode cX1_comes 89 = .ok (.invokevirtual 52, 3) := by decide +kernel
theorem dX1_comes_92 : decode cX1_comes 92 = .ok (.aload_n 0, 1) := by decide +kernel
theorem dX1_comes_93 : decode cX1_comes 93 = .ok (.getfield 36, 3) := by decide +kernel
theorem dX1_comes_96 : decode cX1_comes 96 = .ok (.bipush 6, 2) := by decide +kernel
theorem dX1_comes_98 : decode cX1_comes 98 = .ok (.if_icmp .ne 9, 3) := by decide +kernel
theorem dX1_comes_101 : decode cX1_comes 101 = .ok (.aload_n 0, 1) := by decide +kernel
theorem dX1_comes_102 : decode cX1_comes 102 = .ok (.iconst 1, 1) := by decide +kernel
theorem dX1_comes_103 : decode cX1_comes 103 = .ok (.iconst 1, 1) := by decide +kernel
theorem dX1_comes_104 : decode cX1_comes 104 = .ok (.invokevirtual 56, 3) := by decide +kernel
theorem dX1_comes_107 : decode cX1_comes 107 = .ok (.aload_n 0, 1) := by decide +kernel
theorem dX1_comes_108 : decode cX1_comes 108 = .ok (.aload_n 0, 1) := by decide +kernel
theorem dX1_comes_109 : decode cX1_comes 109 = .ok (.getfield 45, 3) := by decide +kernel
theorem dX1_comes_112 : decode cX1_comes 112 = .ok (.ifCond .eq 15, 3) := by decide +kernel
theorem dX1_comes_115 : decode cX1_comes 115 = .ok (.aload_n 0, 1) := by decide +kernel
theorem dX1_comes_116 : decode cX1_comes 116 = .ok (.getfield 42, 3) := by decide +kernel
theorem dX1_comes_119 : decode cX1_comes 119 = .ok (.iconst 2, 1) := by decide +kernel
theorem dX1_comes_120 : decode cX1_comes 120 = .ok (.if_icmp .ne 7, 3) := by decide +kernel
theorem dX1_comes_123 : decode cX1_comes 123 = .ok (.iconst 1, 1) := by decide +kernel
theorem dX1_comes_124 : decode cX1_comes 124 = .ok (.goto 4, 3) := by decide +kernel
theorem dX1_comes_127 : decode cX1_comes 127 = .ok (.iconst 0, 1) := by decide +kernel
theorem dX1_comes_128 : decode cX1_comes 128 = .ok (.putfield 45, 3) := by decide +kernel
theorem dX1_comes_131 : decode cX1_comes 131 = .ok (.goto 88, 3) := by decide +kernel
theorem dX1_comes_134 : decode cX1_comes 134 = .ok (.aload_n 0, 1) := by decide +kernel
theorem dX1_comes_135 : decode cX1_comes 135 = .ok (.iconst 1, 1) := by decide +kernel
theorem dX1_comes_136 : decode cX1_comes 136 = .ok (.iconst 1, 1) := by decide +kernel
theorem dX1_comes_137 : decode cX1_comes 137 = .ok (.invokevirtual 56, 3) := by decide +kernel
theorem dX1_comes_140 : decode cX1_comes 140 = .ok (.goto 79, 3) := by decide +kernel
theorem dX1_comes_143 : decode cX1_comes 143 = .ok (.aload_n 0, 1) := by decide +kernel
theorem dX1_comes_144 : decode cX1_comes 144 = .ok (.iconst 0, 1) := by decide +kernel
theorem dX1_comes_145 : decode cX1_comes 145 = .ok (.putfield 42, 3) := by decide +kernel
theorem dX1_comes_148 : decode cX1_comes 148 = .ok (.aload_n 0, 1) := by decide +kernel
theorem dX1_comes_149 : decode cX1_comes 149 = .ok (.iconst 3, 1) := by decide +kernel
theorem dX1_comes_150 : decode cX1_comes 150 = .ok (.iconst 1, 1) := by decide +kernel
theorem dX1_comes_151 : decode cX1_comes 151 = .ok (.invokevirtual 52, 3) := by decide +kernel
theorem dX1_comes_154 : decode cX1_comes 154 = .ok (.goto 65, 3) := by decide +kernel
theorem dX1_comes_157 : decode cX1_comes 157 = .ok (.aload_n 0, 1) := by decide +kernel
theorem dX1_comes_158 : decode cX1_comes 158 = .ok (.iconst 0, 1) := by decide +kernel
theorem dX1_comes_159 : decode cX1_comes 159 = .ok (.putfield 42, 3) := by decide +kernel
theorem dX1_comes_162 : decode cX1_comes 162 = .ok (.aload_n 0, 1) := by decide +kernel
theorem dX1_comes_163 : decode cX1_comes 163 = .ok (.iconst 4, 1) := by decide +kernel
theorem dX1_comes_164 : decode cX1_comes 164 = .ok (.iconst 1, 1) := by decide +kernel
theorem dX1_comes_165 : decode cX1_comes 165 = .ok (.invokevirtual 52, 3) := by decide +kernel
theorem dX1_comes_168 : decode cX1_comes 168 = .ok (.goto 51, 3) := by decide +kernel
theorem dX1_comes_171 : decode cX1_comes 171 = .ok (.aload_n 0, 1) := by decide +kernel
theorem dX1_comes_172 : decode cX1_comes 172 = .ok (.iconst 0, 1) := by decide +kernel
theorem dX1_comes_173 : decode cX1_comes 173 = .ok (.putfield 45, 3) := by decide +kernel
theorem dX1_comes_176 : decode cX1_comes 176 = .ok (.aload_n 0, 1) := by decide +kernel
theorem dX1_comes_177 : decode cX1_comes 177 = .ok (.bipush 6, 2) := by decide +kernel
theorem dX1_comes_179 : decode cX1_comes 179 = .ok (.iconst 1, 1) := by decide +kernel
theorem dX1_comes_180 : decode cX1_comes 180 = .ok (.invokevirtual 56, 3) := by decide +kernel
theorem dX1_comes_183 : decode cX1_comes 183 = .ok (.goto 36, 3) := by decide +kernel
theorem dX1_comes_186 : decode cX1_comes 186 = .ok (.aload_n 0, 1) := by decide +kernel
theorem dX1_comes_187 : decode cX1_comes 187 = .ok (.iconst 5, 1) := by decide +kernel
theorem dX1_comes_188 : decode cX1_comes 188 = .ok (.iconst 1, 1) := by decide +kernel
theorem dX1_comes_189 : decode cX1_comes 189 = .ok (.invokevirtual 56, 3) := by decide +kernel
theorem dX1_comes_192 : decode cX1_comes 192 = .ok (.goto 27, 3) := by decide +kernel
theorem dX1_comes_195 : decode cX1_comes 195 = .ok (.aload_n 0, 1) := by decide +kernel
theorem dX1_comes_196 : decode cX1_comes 196 = .ok (.iconst 4, 1) := by decide +kernel
theorem dX1_comes_197 : decode cX1_comes 197 = .ok (.iconst 1, 1) := by decide +kernel
theorem dX1_comes_198 : decode cX1_comes 198 = .ok (.invokevirtual 56, 3) := by decide +kernel
theorem dX1_comes_201 : decode cX1_comes 201 = .ok (.goto 18, 3) := by decide +kernel
theorem dX1_comes_204 : decode cX1_comes 204 = .ok (.aload_n 0, 1) := by decide +kernel
theorem dX1_comes_205 : decode cX1_comes 205 = .ok (.iconst 1, 1) := by decide +kernel
theorem dX1_comes_206 : decode cX1_comes 206 = .ok (.iconst 1, 1) := by decide +kernel
theorem dX1_comes_207 : decode cX1_comes 207 = .ok (.invokevirtual 56, 3) := by decide +kernel
theorem dX1_comes_210 : decode cX1_comes 210 = .ok (.goto 9, 3) := by decide +kernel
theorem dX1_comes_213 : decode cX1_comes 213 = .ok (.aload_n 0, 1) := by decide +kernel
theorem dX1_comes_214 : decode cX1_comes 214 = .ok (.iconst 3, 1) := by decide +kernel
theorem dX1_comes_215 : decode cX1_comes 215 = .ok (.iconst 1, 1) := by decide +kernel
theorem dX1_comes_216 : decode cX1_comes 216 = .ok (.invokevirtual 56, 3) := by decide +kernel
theorem dX1_comes_219 : decode cX1_comes 219 = .ok (.return_, 1) := by decide +kernel
set_option maxRecDepth 20000 in
theorem ggX1_settle_X1_rule : GoodIn wsX1_settle wsX1_rule := goodIn_r _ [5, 6, 7, 8, 9, 10, 11, 12, 13, 14, 4, 15, 16, 17, 18, 19, 20, 21, 22, 23, 24, 55, 56, 57, 58, 59, 60, 61, 62, 63, 64, 65, 66, 67, 68, 69] (by decide +kernel) (by decide +kernel)
set_option maxRecDepth 20000 in
theorem gX1_settle_X1_rule : GoodIn wsX1_settle (wsV RX1 87 RX1 yX1_rule wsX1_rule) := goodIn_app (goodIn_of _ (by decide +kernel)) ggX1_settle_X1_rule
set_option maxRecDepth 20000 in
theorem ggX1_settle_X1_comes : GoodIn wsX1_settle wsX1_comes := goodIn_r _ [28, 8, 9, 11, 10, 12, 13, 14, 4, 15, 16, 17, 29, 30, 31, 32, 33, 34, 35, 36, 37, 38, 39, 40, 41, 42, 43, 44, 7, 45, 46, 47, 48, 49, 50, 51, 52, 53, 54, 55, 56, 57, 58, 59, 60, 61, 62, 63, 64, 65, 66, 67, 68, 69] (by decide +kernel) (by decide +kernel)
set_option maxRecDepth 20000 in
theorem gX1_settle_X1_comes : GoodIn wsX1_settle (wsV RX1 90 RX1 yX1_comes wsX1_comes) := goodIn_app (goodIn_of _ (by decide +kernel)) ggX1_settle_X1_comes
theorem dX1_settle_0 : decode cX1_settle 0 = .ok (.iconst 0, 1) := by decide +kernel
theorem dX1_settle_1 : decode cX1_settle 1 = .ok (.istore_n 1, 1) := by decide +kernel
theorem dX1_settle_2 : decode cX1_settle 2 = .ok (.aload_n 0, 1) := by decide +kernel
theorem dX1_settle_3 : decode cX1_settle 3 = .ok (.invokevirtual 87, 3) := by decide +kernel
theorem dX1_settle_6 : decode cX1_settle 6 = .ok (.istore_n 2, 1) := by decide +kernel
theorem dX1_settle_7 : decode cX1_settle 7 = .ok (.iload_n 2, 1) := by decide +kernel
theorem dX1_settle_8 : decode cX1_settle 8 = .ok (.ifCond .le 19, 3) := by decide +kernel
theorem dX1_settle_11 : decode cX1_settle 11 = .ok (.aload_n 0, 1) := by decide +kernel
theorem dX1_settle_12 : decode cX1_settle 12 = .ok (.iload_n 2, 1) := by decide +kernel
theorem dX1_settle_13 : decode cX1_settle 13 = .ok (.invokevirtual 90, 3) := by decide +kernel
theorem dX1_settle_16 : decode cX1_settle 16 = .ok (.iinc 1 1, 3) := by decide +kernel
theorem dX1_settle_19 : decode cX1_settle 19 = .ok (.aload_n 0, 1) := by decide +kernel
theorem dX1_settle_20 : decode cX1_settle 20 = .ok (.invokevirtual 87, 3) := by decide +kernel
theorem dX1_settle_23 : decode cX1_settle 23 = .ok (.istore_n 2, 1) := by decide +kernel
theorem dX1_settle_24 : decode cX1_settle 24 = .ok (.goto (-17), 3) := by decide +kernel
theorem dX1_settle_27 : decode cX1_settle 27 = .ok (.iload_n 1, 1) := by decide +kernel
theorem dX1_settle_28 : decode cX1_settle 28 = .ok (.ireturn, 1) := by decide +kernel
set_option maxRecDepth 20000 in
theorem ggX1_outOfApproach_X1_lateralTo : GoodIn wsX1_outOfApproach wsX1_lateralTo := goodIn_r _ [9, 1, 10, 11, 12, 13, 8, 14, 15, 16, 22, 23, 24, 25, 26, 27, 28, 29, 30, 31, 32, 33, 34, 35, 36] (by decide +kernel) (by decide +kernel)
set_option maxRecDepth 20000 in
theorem gX1_outOfApproach_X1_lateralTo : GoodIn wsX1_outOfApproach (wsV RX1 52 RX1 yX1_lateralTo wsX1_lateralTo) := goodIn_app (goodIn_of _ (by decide +kernel)) ggX1_outOfApproach_X1_lateralTo
set_option maxRecDepth 20000 in
theorem ggX1_outOfApproach_X1_verticalTo : GoodIn wsX1_outOfApproach wsX1_verticalTo := goodIn_r _ [20, 2, 21, 11, 12, 13, 8, 14, 15, 16, 22, 23, 24, 25, 26, 27, 28, 29, 30, 31, 32, 33, 34, 35, 36] (by decide +kernel) (by decide +kernel)
set_option maxRecDepth 20000 in
theorem gX1_outOfApproach_X1_verticalTo : GoodIn wsX1_outOfApproach (wsV RX1 56 RX1 yX1_verticalTo wsX1_verticalTo) := goodIn_app (goodIn_of _ (by decide +kernel)) ggX1_outOfApproach_X1_verticalTo
theorem dX1_outOfApproach_0 : decode cX1_outOfApproach 0 = .ok (.aload_n 0, 1) := by decide +kernel
theorem dX1_outOfApproach_1 : decode cX1_outOfApproach 1 = .ok (.getfield 26, 3) := by decide +kernel
theorem dX1_outOfApproach_4 : decode cX1_outOfApproach 4 = .ok (.iconst 4, 1) := by decide +kernel
theorem dX1_outOfApproach_5 : decode cX1_outOfApproach 5 = .ok (.if_icmp .ne 7, 3) := by decide +kernel
theorem dX1_outOfApproach_8 : decode cX1_outOfApproach 8 = .ok (.iconst 1, 1) := by decide +kernel
theorem dX1_outOfApproach_9 : decode cX1_outOfApproach 9 = .ok (.goto 4, 3) := by decide +kernel
theorem dX1_outOfApproach_12 : decode cX1_outOfApproach 12 = .ok (.iconst 0, 1) := by decide +kernel
theorem dX1_outOfApproach_13 : decode cX1_outOfApproach 13 = .ok (.istore_n 2, 1) := by decide +kernel
theorem dX1_outOfApproach_14 : decode cX1_outOfApproach 14 = .ok (.aload_n 0, 1) := by decide +kernel
theorem dX1_outOfApproach_15 : decode cX1_outOfApproach 15 = .ok (.iload_n 1, 1) := by decide +kernel
theorem dX1_outOfApproach_16 : decode cX1_outOfApproach 16 = .ok (.iconst 0, 1) := by decide +kernel
theorem dX1_outOfApproach_17 : decode cX1_outOfApproach 17 = .ok (.invokevirtual 52, 3) := by decide +kernel
theorem dX1_outOfApproach_20 : decode cX1_outOfApproach 20 = .ok (.iload_n 2, 1) := by decide +kernel
theorem dX1_outOfApproach_21 : decode cX1_outOfApproach 21 = .ok (.ifCond .eq 18, 3) := by decide +kernel
theorem dX1_outOfApproach_24 : decode cX1_outOfApproach 24 = .ok (.aload_n 0, 1) := by decide +kernel
theorem dX1_outOfApproach_25 : decode cX1_outOfApproach 25 = .ok (.getfield 36, 3) := by decide +kernel
theorem dX1_outOfApproach_28 : decode cX1_outOfApproach 28 = .ok (.bipush 6, 2) := by decide +kernel
theorem dX1_outOfApproach_30 : decode cX1_outOfApproach 30 = .ok (.if_icmp .ne 9, 3) := by decide +kernel
theorem dX1_outOfApproach_33 : decode cX1_outOfApproach 33 = .ok (.aload_n 0, 1) := by decide +kernel
theorem dX1_outOfApproach_34 : decode cX1_outOfApproach 34 = .ok (.iconst 1, 1) := by decide +kernel
theorem dX1_outOfApproach_35 : decode cX1_outOfApproach 35 = .ok (.iconst 0, 1) := by decide +kernel
theorem dX1_outOfApproach_36 : decode cX1_outOfApproach 36 = .ok (.invokevirtual 56, 3) := by decide +kernel
theorem dX1_outOfApproach_39 : decode cX1_outOfApproach 39 = .ok (.aload_n 0, 1) := by decide +kernel
theorem dX1_outOfApproach_40 : decode cX1_outOfApproach 40 = .ok (.aload_n 0, 1) := by decide +kernel
theorem dX1_outOfApproach_41 : decode cX1_outOfApproach 41 = .ok (.getfield 45, 3) := by decide +kernel
theorem dX1_outOfApproach_44 : decode cX1_outOfApproach 44 = .ok (.ifCond .eq 19, 3) := by decide +kernel
theorem dX1_outOfApproach_47 : decode cX1_outOfApproach 47 = .ok (.iload_n 2, 1) := by decide +kernel
theorem dX1_outOfApproach_48 : decode cX1_outOfApproach 48 = .ok (.ifCond .eq 11, 3) := by decide +kernel
theorem dX1_outOfApproach_51 : decode cX1_outOfApproach 51 = .ok (.aload_n 0, 1) := by decide +kernel
theorem dX1_outOfApproach_52 : decode cX1_outOfApproach 52 = .ok (.getfield 42, 3) := by decide +kernel
theorem dX1_outOfApproach_55 : decode cX1_outOfApproach 55 = .ok (.iconst 2, 1) := by decide +kernel
theorem dX1_outOfApproach_56 : decode cX1_outOfApproach 56 = .ok (.if_icmp .ne 7, 3) := by decide +kernel
theorem dX1_outOfApproach_59 : decode cX1_outOfApproach 59 = .ok (.iconst 1, 1) := by decide +kernel
theorem dX1_outOfApproach_60 : decode cX1_outOfApproach 60 = .ok (.goto 4, 3) := by decide +kernel
theorem dX1_outOfApproach_63 : decode cX1_outOfApproach 63 = .ok (.iconst 0, 1) := by decide +kernel
theorem dX1_outOfApproach_64 : decode cX1_outOfApproach 64 = .ok (.putfield 45, 3) := by decide +kernel
theorem dX1_outOfApproach_67 : decode cX1_outOfApproach 67 = .ok (.return_, 1) := by decide +kernel
set_option maxRecDepth 20000 in
theorem ggX1_navButton_X1_lateralTo : GoodIn wsX1_navButton wsX1_lateralTo := goodIn_r _ [8, 1, 9, 10, 11, 12, 7, 13, 14, 15, 16, 17, 18, 19, 20, 21, 22, 23, 24, 25, 26, 27, 28, 29, 30] (by decide +kernel) (by decide +kernel)
set_option maxRecDepth 20000 in
theorem gX1_navButton_X1_lateralTo : GoodIn wsX1_navButton (wsV RX1 52 RX1 yX1_lateralTo wsX1_lateralTo) := goodIn_app (goodIn_of _ (by decide +kernel)) ggX1_navButton_X1_lateralTo
theorem dX1_navButton_0 : decode cX1_navButton 0 = .ok (.aload_n 0, 1) := by decide +kernel
theorem dX1_navButton_1 : decode cX1_navButton 1 = .ok (.getfield 26, 3) := by decide +kernel
theorem dX1_navButton_4 : decode cX1_navButton 4 = .ok (.iconst 3, 1) := by decide +kernel
theorem dX1_navButton_5 : decode cX1_navButton 5 = .ok (.if_icmp .ne 12, 3) := by decide +kernel
theorem dX1_navButton_8 : decode cX1_navButton 8 = .ok (.aload_n 0, 1) := by decide +kernel
theorem dX1_navButton_9 : decode cX1_navButton 9 = .ok (.iconst 1, 1) := by decide +kernel
theorem dX1_navButton_10 : decode cX1_navButton 10 = .ok (.iconst 0, 1) := by decide +kernel
theorem dX1_navButton_11 : decode cX1_navButton 11 = .ok (.invokevirtual 52, 3) := by decide +kernel
theorem dX1_navButton_14 : decode cX1_navButton 14 = .ok (.goto 37, 3) := by decide +kernel
theorem dX1_navButton_17 : decode cX1_navButton 17 = .ok (.aload_n 0, 1) := by decide +kernel
theorem dX1_navButton_18 : decode cX1_navButton 18 = .ok (.getfield 26, 3) := by decide +kernel
theorem dX1_navButton_21 : decode cX1_navButton 21 = .ok (.iconst 4, 1) := by decide +kernel
theorem dX1_navButton_22 : decode cX1_navButton 22 = .ok (.if_icmp .eq 29, 3) := by decide +kernel
theorem dX1_navButton_25 : decode cX1_navButton 25 = .ok (.aload_n 0, 1) := by decide +kernel
theorem dX1_navButton_26 : decode cX1_navButton 26 = .ok (.getfield 42, 3) := by decide +kernel
theorem dX1_navButton_29 : decode cX1_navButton 29 = .ok (.iconst 1, 1) := by decide +kernel
theorem dX1_navButton_30 : decode cX1_navButton 30 = .ok (.if_icmp .ne 11, 3) := by decide +kernel
theorem dX1_navButton_33 : decode cX1_navButton 33 = .ok (.aload_n 0, 1) := by decide +kernel
theorem dX1_navButton_34 : decode cX1_navButton 34 = .ok (.iconst 0, 1) := by decide +kernel
theorem dX1_navButton_35 : decode cX1_navButton 35 = .ok (.putfield 42, 3) := by decide +kernel
theorem dX1_navButton_38 : decode cX1_navButton 38 = .ok (.goto 13, 3) := by decide +kernel
theorem dX1_navButton_41 : decode cX1_navButton 41 = .ok (.aload_n 0, 1) := by decide +kernel
theorem dX1_navButton_42 : decode cX1_navButton 42 = .ok (.iconst 1, 1) := by decide +kernel
theorem dX1_navButton_43 : decode cX1_navButton 43 = .ok (.putfield 42, 3) := by decide +kernel
theorem dX1_navButton_46 : decode cX1_navButton 46 = .ok (.aload_n 0, 1) := by decide +kernel
theorem dX1_navButton_47 : decode cX1_navButton 47 = .ok (.iconst 0, 1) := by decide +kernel
theorem dX1_navButton_48 : decode cX1_navButton 48 = .ok (.putfield 45, 3) := by decide +kernel
theorem dX1_navButton_51 : decode cX1_navButton 51 = .ok (.return_, 1) := by decide +kernel
set_option maxRecDepth 20000 in
theorem ggX1_approachButton_X1_outOfApproach : GoodIn wsX1_approachButton wsX1_outOfApproach := goodIn_r _ [8, 1, 9, 2, 3, 10, 11, 12, 7, 13, 14, 15, 16, 17, 18, 19, 20, 21, 22, 23, 24, 25, 30, 31, 32, 33, 34, 35, 36, 37, 38, 39, 40, 41, 42, 43, 44] (by decide +kernel) (by decide +kernel)
set_option maxRecDepth 20000 in
theorem gX1_approachButton_X1_outOfApproach : GoodIn wsX1_approachButton (wsV RX1 93 RX1 yX1_outOfApproach wsX1_outOfApproach) := goodIn_app (goodIn_of _ (by decide +kernel)) ggX1_approachButton_X1_outOfApproach
set_option maxRecDepth 20000 in
theorem ggX1_approachButton_X1_noneArmed : GoodIn wsX1_approachButton wsX1_noneArmed := goodIn_r _ [29, 3, 2, 30, 31, 32, 33, 34, 35, 36, 37, 38, 39, 40, 41, 42, 43, 44] (by decide +kernel) (by decide +kernel)
set_option maxRecDepth 20000 in
theorem gX1_approachButton_X1_noneArmed : GoodIn wsX1_approachButton (wsV RX1 49 RX1 yX1_noneArmed wsX1_noneArmed) := goodIn_app (goodIn_of _ (by decide +kernel)) ggX1_approachButton_X1_noneArmed
theorem dX1_approachButton_0 : decode cX1_approachButton 0 = .ok (.aload_n 0, 1) := by decide +kernel
theorem dX1_approachButton_1 : decode cX1_approachButton 1 = .ok (.getfield 26, 3) := by decide +kernel
theorem dX1_approachButton_4 : decode cX1_approachButton 4 = .ok (.iconst 4, 1) := by decide +kernel
theorem dX1_approachButton_5 : decode cX1_approachButton 5 = .ok (.if_icmp .ne 16, 3) := by decide +kernel
theorem dX1_approachButton_8 : decode cX1_approachButton 8 = .ok (.aload_n 0, 1) := by decide +kernel
theorem dX1_approachButton_9 : decode cX1_approachButton 9 = .ok (.iconst 1, 1) := by decide +kernel
theorem dX1_approachButton_10 : decode cX1_approachButton 10 = .ok (.invokevirtual 93, 3) := by decide +kernel
theorem dX1_approachButton_13 : decode cX1_approachButton 13 = .ok (.aload_n 0, 1) := by decide +kernel
theorem dX1_approachButton_14 : decode cX1_approachButton 14 = .ok (.iconst 0, 1) := by decide +kernel
theorem dX1_approachButton_15 : decode cX1_approachButton 15 = .ok (.putfield 45, 3) := by decide +kernel
theorem dX1_approachButton_18 : decode cX1_approachButton 18 = .ok (.goto 28, 3) := by decide +kernel
theorem dX1_approachButton_21 : decode cX1_approachButton 21 = .ok (.aload_n 0, 1) := by decide +kernel
theorem dX1_approachButton_22 : decode cX1_approachButton 22 = .ok (.getfield 42, 3) := by decide +kernel
theorem dX1_approachButton_25 : decode cX1_approachButton 25 = .ok (.iconst 2, 1) := by decide +kernel
theorem dX1_approachButton_26 : decode cX1_approachButton 26 = .ok (.if_icmp .ne 10, 3) := by decide +kernel
theorem dX1_approachButton_29 : decode cX1_approachButton 29 = .ok (.aload_n 0, 1) := by decide +kernel
theorem dX1_approachButton_30 : decode cX1_approachButton 30 = .ok (.invokevirtual 49, 3) := by decide +kernel
theorem dX1_approachButton_33 : decode cX1_approachButton 33 = .ok (.goto 13, 3) := by decide +kernel
theorem dX1_approachButton_36 : decode cX1_approachButton 36 = .ok (.aload_n 0, 1) := by decide +kernel
theorem dX1_approachButton_37 : decode cX1_approachButton 37 = .ok (.iconst 2, 1) := by decide +kernel
theorem dX1_approachButton_38 : decode cX1_approachButton 38 = .ok (.putfield 42, 3) := by decide +kernel
theorem dX1_approachButton_41 : decode cX1_approachButton 41 = .ok (.aload_n 0, 1) := by decide +kernel
theorem dX1_approachButton_42 : decode cX1_approachButton 42 = .ok (.iconst 1, 1) := by decide +kernel
theorem dX1_approachButton_43 : decode cX1_approachButton 43 = .ok (.putfield 45, 3) := by decide +kernel
theorem dX1_approachButton_46 : decode cX1_approachButton 46 = .ok (.return_, 1) := by decide +kernel
set_option maxRecDepth 20000 in
theorem ggX1_button_X1_outOfApproach : GoodIn wsX1_button wsX1_outOfApproach := goodIn_r _ [12, 1, 2, 13, 14, 15, 16, 17, 11, 18, 19, 20, 21, 22, 23, 24, 25, 26, 27, 28, 29, 30, 55, 56, 57, 58, 59, 60, 61, 62, 63, 64, 65, 66, 67, 68, 69] (by decide +kernel) (by decide +kernel)
set_option maxRecDepth 20000 in
theorem gX1_button_X1_outOfApproach : GoodIn wsX1_button (wsV RX1 93 RX1 yX1_outOfApproach wsX1_outOfApproach) := goodIn_app (goodIn_of _ (by decide +kernel)) ggX1_button_X1_outOfApproach
set_option maxRecDepth 20000 in
theorem ggX1_button_X1_navButton : GoodIn wsX1_button wsX1_navButton := goodIn_r _ [34, 1, 14, 13, 15, 16, 17, 11, 18, 19, 20, 21, 22, 23, 24, 25, 55, 56, 57, 58, 59, 60, 61, 62, 63, 64, 65, 66, 67, 68, 69] (by decide +kernel) (by decide +kernel)
set_option maxRecDepth 20000 in
theorem gX1_button_X1_navButton : GoodIn wsX1_button (wsV RX1 96 RX1 yX1_navButton wsX1_navButton) := goodIn_app (goodIn_of _ (by decide +kernel)) ggX1_button_X1_navButton
set_option maxRecDepth 20000 in
theorem ggX1_button_X1_approachButton : GoodIn wsX1_button wsX1_approachButton := goodIn_r _ [38, 1, 13, 14, 8, 9, 10, 11, 12, 2, 15, 16, 17, 18, 19, 20, 21, 22, 23, 24, 25, 26, 27, 28, 29, 30, 39, 40, 41, 42, 55, 56, 57, 58, 59, 60, 61, 62, 63, 64, 65, 66, 67, 68, 69] (by decide +kernel) (by decide +kernel)
set_option maxRecDepth 20000 in
theorem gX1_button_X1_approachButton : GoodIn wsX1_button (wsV RX1 99 RX1 yX1_approachButton wsX1_approachButton) := goodIn_app (goodIn_of _ (by decide +kernel)) ggX1_button_X1_approachButton
set_option maxRecDepth 20000 in
theorem ggX1_button_X1_verticalTo : GoodIn wsX1_button wsX1_verticalTo := goodIn_r _ [29, 2, 30, 20, 21, 22, 11, 23, 24, 25, 55, 56, 57, 58, 59, 60, 61, 62, 63, 64, 65, 66, 67, 68, 69] (by decide +kernel) (by decide +kernel)
set_option maxRecDepth 20000 in
theorem gX1_button_X1_verticalTo : GoodIn wsX1_button (wsV RX1 56 RX1 yX1_verticalTo wsX1_verticalTo) := goodIn_app (goodIn_of _ (by decide +kernel)) ggX1_button_X1_verticalTo
set_option maxRecDepth 20000 in
theorem ggX1_button_X1_noneArmed : GoodIn wsX1_button wsX1_noneArmed := goodIn_r _ [42, 14, 13, 55, 56, 57, 58, 59, 60, 61, 62, 63, 64, 65, 66, 67, 68, 69] (by decide +kernel) (by decide +kernel)
set_option maxRecDepth 20000 in
theorem gX1_button_X1_noneArmed : GoodIn wsX1_button (wsV RX1 49 RX1 yX1_noneArmed wsX1_noneArmed) := goodIn_app (goodIn_of _ (by decide +kernel)) ggX1_button_X1_noneArmed
set_option maxRecDepth 20000 in
theorem ggX1_button_X1_lateralTo : GoodIn wsX1_button wsX1_lateralTo := goodIn_r _ [18, 1, 19, 20, 21, 22, 11, 23, 24, 25, 55, 56, 57, 58, 59, 60, 61, 62, 63, 64, 65, 66, 67, 68, 69] (by decide +kernel) (by decide +kernel)
set_option maxRecDepth 20000 in
theorem gX1_button_X1_lateralTo : GoodIn wsX1_button (wsV RX1 52 RX1 yX1_lateralTo wsX1_lateralTo) := goodIn_app (goodIn_of _ (by decide +kernel)) ggX1_button_X1_lateralTo
set_option maxRecDepth 20000 in
theorem ggX1_button_X1_isBad : GoodIn wsX1_button wsX1_isBad := goodIn_r _ [46, 6, 7, 55, 56, 57, 58, 59, 60, 61, 62, 63, 64, 65, 66, 67, 68, 69] (by decide +kernel) (by decide +kernel)
set_option maxRecDepth 20000 in
theorem gX1_button_X1_isBad : GoodIn wsX1_button (wsV RX1 75 RX1 yX1_isBad wsX1_isBad) := goodIn_app (goodIn_of _ (by decide +kernel)) ggX1_button_X1_isBad
set_option maxRecDepth 20000 in
theorem ggX1_button_X1_base : GoodIn wsX1_button wsX1_base := goodIn_r _ [50, 39, 40, 41, 11, 42, 14, 13, 15, 16, 17, 18, 1, 19, 20, 21, 22, 23, 24, 25, 26, 27, 28, 29, 2, 30, 55, 56, 57, 58, 59, 60, 61, 62, 63, 64, 65, 66, 67, 68, 69] (by decide +kernel) (by decide +kernel)
set_option maxRecDepth 20000 in
theorem gX1_button_X1_base : GoodIn wsX1_button (wsV RX1 102 RX1 yX1_base wsX1_base) := goodIn_app (goodIn_of _ (by decide +kernel)) ggX1_button_X1_base
set_option maxRecDepth 20000 in
theorem ggX1_button_X1_goOff : GoodIn wsX1_button wsX1_goOff := goodIn_r _ [54, 3, 4, 19, 30, 39, 40, 41, 11, 42, 14, 13, 15, 16, 17, 18, 1, 20, 21, 22, 23, 24, 25, 26, 27, 28, 29, 2, 55, 56, 57, 58, 59, 60, 61, 62, 63, 64, 65, 66, 67, 68, 69] (by decide +kernel) (by decide +kernel)
set_option maxRecDepth 20000 in
theorem gX1_button_X1_goOff : GoodIn wsX1_button (wsV RX1 83 RX1 yX1_goOff wsX1_goOff) := goodIn_app (goodIn_of _ (by decide +kernel)) ggX1_button_X1_goOff
