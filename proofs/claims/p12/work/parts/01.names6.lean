theorem dX5_isType_80 : decode cX5_isType 80 = .ok (.isub, 1) := by decide +kernel
theorem dX5_isType_81 : decode cX5_isType 81 = .ok (.baload, 1) := by decide +kernel
theorem dX5_isType_82 : decode cX5_isType 82 = .ok (.bipush 116, 2) := by decide +kernel
theorem dX5_isType_84 : decode cX5_isType 84 = .ok (.if_icmp .ne 7, 3) := by decide +kernel
theorem dX5_isType_87 : decode cX5_isType 87 = .ok (.iconst 1, 1) := by decide +kernel
theorem dX5_isType_88 : decode cX5_isType 88 = .ok (.goto 4, 3) := by decide +kernel
theorem dX5_isType_91 : decode cX5_isType 91 = .ok (.iconst 0, 1) := by decide +kernel
theorem dX5_isType_92 : decode cX5_isType 92 = .ok (.istore_n 3, 1) := by decide +kernel
theorem dX5_isType_93 : decode cX5_isType 93 = .ok (.iload_n 3, 1) := by decide +kernel
theorem dX5_isType_94 : decode cX5_isType 94 = .ok (.ifCond .ne 21, 3) := by decide +kernel
theorem dX5_isType_97 : decode cX5_isType 97 = .ok (.aload_n 0, 1) := by decide +kernel
theorem dX5_isType_98 : decode cX5_isType 98 = .ok (.aload_n 0, 1) := by decide +kernel
theorem dX5_isType_99 : decode cX5_isType 99 = .ok (.getfield 16, 3) := by decide +kernel
theorem dX5_isType_102 : decode cX5_isType 102 = .ok (.iload_n 1, 1) := by decide +kernel
theorem dX5_isType_103 : decode cX5_isType 103 = .ok (.iaload, 1) := by decide +kernel
theorem dX5_isType_104 : decode cX5_isType 104 = .ok (.iload_n 2, 1) := by decide +kernel
theorem dX5_isType_105 : decode cX5_isType 105 = .ok (.bipush 65, 2) := by decide +kernel
theorem dX5_isType_107 : decode cX5_isType 107 = .ok (.bipush 90, 2) := by decide +kernel
theorem dX5_isType_109 : decode cX5_isType 109 = .ok (.invokevirtual 69, 3) := by decide +kernel
theorem dX5_isType_112 : decode cX5_isType 112 = .ok (.ifCond .eq 7, 3) := by decide +kernel
theorem dX5_isType_115 : decode cX5_isType 115 = .ok (.iconst 1, 1) := by decide +kernel
theorem dX5_isType_116 : decode cX5_isType 116 = .ok (.goto 4, 3) := by decide +kernel
theorem dX5_isType_119 : decode cX5_isType 119 = .ok (.iconst 0, 1) := by decide +kernel
theorem dX5_isType_120 : decode cX5_isType 120 = .ok (.ireturn, 1) := by decide +kernel
theorem dX5_point_0 : decode cX5_point 0 = .ok (.aload_n 0, 1) := by decide +kernel
theorem dX5_point_1 : decode cX5_point 1 = .ok (.getfield 16, 3) := by decide +kernel
theorem dX5_point_4 : decode cX5_point 4 = .ok (.iload_n 1, 1) := by decide +kernel
theorem dX5_point_5 : decode cX5_point 5 = .ok (.iaload, 1) := by decide +kernel
theorem dX5_point_6 : decode cX5_point 6 = .ok (.istore_n 2, 1) := by decide +kernel
theorem dX5_point_7 : decode cX5_point 7 = .ok (.iload_n 2, 1) := by decide +kernel
theorem dX5_point_8 : decode cX5_point 8 = .ok (.aload_n 0, 1) := by decide +kernel
theorem dX5_point_9 : decode cX5_point 9 = .ok (.getfield 20, 3) := by decide +kernel
theorem dX5_point_12 : decode cX5_point 12 = .ok (.iload_n 1, 1) := by decide +kernel
theorem dX5_point_13 : decode cX5_point 13 = .ok (.iaload, 1) := by decide +kernel
theorem dX5_point_14 : decode cX5_point 14 = .ok (.if_icmp .ge 20, 3) := by decide +kernel
theorem dX5_point_17 : decode cX5_point 17 = .ok (.aload_n 0, 1) := by decide +kernel
theorem dX5_point_18 : decode cX5_point 18 = .ok (.getfield 13, 3) := by decide +kernel
theorem dX5_point_21 : decode cX5_point 21 = .ok (.iload_n 2, 1) := by decide +kernel
theorem dX5_point_22 : decode cX5_point 22 = .ok (.baload, 1) := by decide +kernel
theorem dX5_point_23 : decode cX5_point 23 = .ok (.bipush 46, 2) := by decide +kernel
theorem dX5_point_25 : decode cX5_point 25 = .ok (.if_icmp .eq 9, 3) := by decide +kernel
theorem dX5_point_28 : decode cX5_point 28 = .ok (.iinc 2 1, 3) := by decide +kernel
theorem dX5_point_31 : decode cX5_point 31 = .ok (.goto (-24), 3) := by decide +kernel
theorem dX5_point_34 : decode cX5_point 34 = .ok (.iload_n 2, 1) := by decide +kernel
theorem dX5_point_35 : decode cX5_point 35 = .ok (.ireturn, 1) := by decide +kernel
set_option maxRecDepth 20000 in
theorem ggX5_isReference_X5_point : GoodIn wsX5_isReference wsX5_point := goodIn_r _ [8, 2, 3, 9, 14, 15, 16, 17, 18, 19, 20, 21, 22, 23, 24, 25, 26, 27, 28, 29, 30, 31] (by decide +kernel) (by decide +kernel)
set_option maxRecDepth 20000 in
theorem gX5_isReference_X5_point : GoodIn wsX5_isReference (wsV RX5 77 RX5 yX5_point wsX5_point) := goodIn_app (goodIn_of _ (by decide +kernel)) ggX5_isReference_X5_point
set_option maxRecDepth 20000 in
theorem ggX5_isReference_X5_isName : GoodIn wsX5_isReference wsX5_isName := goodIn_r _ [13, 9, 14, 15, 16, 17, 18, 19, 20, 21, 22, 23, 24, 25, 26, 27, 28, 29, 30, 31] (by decide +kernel) (by decide +kernel)
set_option maxRecDepth 20000 in
theorem gX5_isReference_X5_isName : GoodIn wsX5_isReference (wsV RX5 69 RX5 yX5_isName wsX5_isName) := goodIn_app (goodIn_of _ (by decide +kernel)) ggX5_isReference_X5_isName
theorem dX5_isReference_0 : decode cX5_isReference 0 = .ok (.iload_n 1, 1) := by decide +kernel
theorem dX5_isReference_1 : decode cX5_isReference 1 = .ok (.aload_n 0, 1) := by decide +kernel
theorem dX5_isReference_2 : decode cX5_isReference 2 = .ok (.getfield 56, 3) := by decide +kernel
theorem dX5_isReference_5 : decode cX5_isReference 5 = .ok (.if_icmp .lt 5, 3) := by decide +kernel
theorem dX5_isReference_8 : decode cX5_isReference 8 = .ok (.iconst 0, 1) := by decide +kernel
theorem dX5_isReference_9 : decode cX5_isReference 9 = .ok (.ireturn, 1) := by decide +kernel
theorem dX5_isReference_10 : decode cX5_isReference 10 = .ok (.aload_n 0, 1) := by decide +kernel
theorem dX5_isReference_11 : decode cX5_isReference 11 = .ok (.iload_n 1, 1) := by decide +kernel
theorem dX5_isReference_12 : decode cX5_isReference 12 = .ok (.invokevirtual 77, 3) := by decide +kernel
theorem dX5_isReference_15 : decode cX5_isReference 15 = .ok (.istore_n 2, 1) := by decide +kernel
theorem dX5_isReference_16 : decode cX5_isReference 16 = .ok (.aload_n 0, 1) := by decide +kernel
theorem dX5_isReference_17 : decode cX5_isReference 17 = .ok (.aload_n 0, 1) := by decide +kernel
theorem dX5_isReference_18 : decode cX5_isReference 18 = .ok (.getfield 16, 3) := by decide +kernel
theorem dX5_isReference_21 : decode cX5_isReference 21 = .ok (.iload_n 1, 1) := by decide +kernel
theorem dX5_isReference_22 : decode cX5_isReference 22 = .ok (.iaload, 1) := by decide +kernel
theorem dX5_isReference_23 : decode cX5_isReference 23 = .ok (.iload_n 2, 1) := by decide +kernel
theorem dX5_isReference_24 : decode cX5_isReference 24 = .ok (.bipush 65, 2) := by decide +kernel
theorem dX5_isReference_26 : decode cX5_isReference 26 = .ok (.bipush 90, 2) := by decide +kernel
theorem dX5_isReference_28 : decode cX5_isReference 28 = .ok (.invokevirtual 69, 3) := by decide +kernel
theorem dX5_isReference_31 : decode cX5_isReference 31 = .ok (.ifCond .eq 27, 3) := by decide +kernel
theorem dX5_isReference_34 : decode cX5_isReference 34 = .ok (.aload_n 0, 1) := by decide +kernel
theorem dX5_isReference_35 : decode cX5_isReference 35 = .ok (.iload_n 2, 1) := by decide +kernel
theorem dX5_isReference_36 : decode cX5_isReference 36 = .ok (.iconst 1, 1) := by decide +kernel
theorem dX5_isReference_37 : decode cX5_isReference 37 = .ok (.iadd, 1) := by decide +kernel
theorem dX5_isReference_38 : decode cX5_isReference 38 = .ok (.aload_n 0, 1) := by decide +kernel
theorem dX5_isReference_39 : decode cX5_isReference 39 = .ok (.getfield 20, 3) := by decide +kernel
theorem dX5_isReference_42 : decode cX5_isReference 42 = .ok (.iload_n 1, 1) := by decide +kernel
theorem dX5_isReference_43 : decode cX5_isReference 43 = .ok (.iaload, 1) := by decide +kernel
theorem dX5_isReference_44 : decode cX5_isReference 44 = .ok (.bipush 97, 2) := by decide +kernel
theorem dX5_isReference_46 : decode cX5_isReference 46 = .ok (.bipush 122, 2) := by decide +kernel
theorem dX5_isReference_48 : decode cX5_isReference 48 = .ok (.invokevirtual 69, 3) := by decide +kernel
theorem dX5_isReference_51 : decode cX5_isReference 51 = .ok (.ifCond .eq 7, 3) := by decide +kernel
theorem dX5_isReference_54 : decode cX5_isReference 54 = .ok (.iconst 1, 1) := by decide +kernel
theorem dX5_isReference_55 : decode cX5_isReference 55 = .ok (.goto 4, 3) := by decide +kernel
theorem dX5_isReference_58 : decode cX5_isReference 58 = .ok (.iconst 0, 1) := by decide +kernel
theorem dX5_isReference_59 : decode cX5_isReference 59 = .ok (.ireturn, 1) := by decide +kernel
set_option maxRecDepth 20000 in
theorem ggX5_isNumber_X5_number : GoodIn wsX5_isNumber wsX5_number := goodIn_r _ [11, 2, 3, 4, 12, 13, 14, 15, 16, 17, 18, 19, 20, 21, 22, 23, 24, 25, 26, 27, 28, 29, 30, 31] (by decide +kernel) (by decide +kernel)
set_option maxRecDepth 20000 in
theorem gX5_isNumber_X5_number : GoodIn wsX5_isNumber (wsV RX5 81 RX5 yX5_number wsX5_number) := goodIn_app (goodIn_of _ (by decide +kernel)) ggX5_isNumber_X5_number
theorem dX5_isNumber_0 : decode cX5_isNumber 0 = .ok (.iload_n 1, 1) := by decide +kernel
theorem dX5_isNumber_1 : decode cX5_isNumber 1 = .ok (.aload_n 0, 1) := by decide +kernel
theorem dX5_isNumber_2 : decode cX5_isNumber 2 = .ok (.getfield 56, 3) := by decide +kernel
theorem dX5_isNumber_5 : decode cX5_isNumber 5 = .ok (.if_icmp .lt 5, 3) := by decide +kernel
theorem dX5_isNumber_8 : decode cX5_isNumber 8 = .ok (.iconst 0, 1) := by decide +kernel
theorem dX5_isNumber_9 : decode cX5_isNumber 9 = .ok (.ireturn, 1) := by decide +kernel
theorem dX5_isNumber_10 : decode cX5_isNumber 10 = .ok (.aload_n 0, 1) := by decide +kernel
theorem dX5_isNumber_11 : decode cX5_isNumber 11 = .ok (.getfield 13, 3) := by decide +kernel
theorem dX5_isNumber_14 : decode cX5_isNumber 14 = .ok (.aload_n 0, 1) := by decide +kernel
theorem dX5_isNumber_15 : decode cX5_isNumber 15 = .ok (.getfield 16, 3) := by decide +kernel
theorem dX5_isNumber_18 : decode cX5_isNumber 18 = .ok (.iload_n 1, 1) := by decide +kernel
theorem dX5_isNumber_19 : decode cX5_isNumber 19 = .ok (.iaload, 1) := by decide +kernel
theorem dX5_isNumber_20 : decode cX5_isNumber 20 = .ok (.baload, 1) := by decide +kernel
theorem dX5_isNumber_21 : decode cX5_isNumber 21 = .ok (.bipush 45, 2) := by decide +kernel
theorem dX5_isNumber_23 : decode cX5_isNumber 23 = .ok (.if_icmp .ne 14, 3) := by decide +kernel
theorem dX5_isNumber_26 : decode cX5_isNumber 26 = .ok (.aload_n 0, 1) := by decide +kernel
theorem dX5_isNumber_27 : decode cX5_isNumber 27 = .ok (.getfield 16, 3) := by decide +kernel
theorem dX5_isNumber_30 : decode cX5_isNumber 30 = .ok (.iload_n 1, 1) := by decide +kernel
theorem dX5_isNumber_31 : decode cX5_isNumber 31 = .ok (.iaload, 1) := by decide +kernel
theorem dX5_isNumber_32 : decode cX5_isNumber 32 = .ok (.iconst 1, 1) := by decide +kernel
theorem dX5_isNumber_33 : decode cX5_isNumber 33 = .ok (.iadd, 1) := by decide +kernel
theorem dX5_isNumber_34 : decode cX5_isNumber 34 = .ok (.goto 9, 3) := by decide +kernel
theorem dX5_isNumber_37 : decode cX5_isNumber 37 = .ok (.aload_n 0, 1) := by decide +kernel
theorem dX5_isNumber_38 : decode cX5_isNumber 38 = .ok (.getfield 16, 3) := by decide +kernel
theorem dX5_isNumber_41 : decode cX5_isNumber 41 = .ok (.iload_n 1, 1) := by decide +kernel
theorem dX5_isNumber_42 : decode cX5_isNumber 42 = .ok (.iaload, 1) := by decide +kernel
theorem dX5_isNumber_43 : decode cX5_isNumber 43 = .ok (.istore_n 2, 1) := by decide +kernel
theorem dX5_isNumber_44 : decode cX5_isNumber 44 = .ok (.aload_n 0, 1) := by decide +kernel
theorem dX5_isNumber_45 : decode cX5_isNumber 45 = .ok (.getfield 20, 3) := by decide +kernel
theorem dX5_isNumber_48 : decode cX5_isNumber 48 = .ok (.iload_n 1, 1) := by decide +kernel
theorem dX5_isNumber_49 : decode cX5_isNumber 49 = .ok (.iaload, 1) := by decide +kernel
theorem dX5_isNumber_50 : decode cX5_isNumber 50 = .ok (.iload_n 2, 1) := by decide +kernel
theorem dX5_isNumber_51 : decode cX5_isNumber 51 = .ok (.isub, 1) := by decide +kernel
theorem dX5_isNumber_52 : decode cX5_isNumber 52 = .ok (.iconst 1, 1) := by decide +kernel
theorem dX5_isNumber_53 : decode cX5_isNumber 53 = .ok (.if_icmp .lt 16, 3) := by decide +kernel
theorem dX5_isNumber_56 : decode cX5_isNumber 56 = .ok (.aload_n 0, 1) := by decide +kernel
theorem dX5_isNumber_57 : decode cX5_isNumber 57 = .ok (.getfield 20, 3) := by decide +kernel
theorem dX5_isNumber_60 : decode cX5_isNumber 60 = .ok (.iload_n 1, 1) := by decide +kernel
theorem dX5_isNumber_61 : decode cX5_isNumber 61 = .ok (.iaload, 1) := by decide +kernel
theorem dX5_isNumber_62 : decode cX5_isNumber 62 = .ok (.iload_n 2, 1) := by decide +kernel
theorem dX5_isNumber_63 : decode cX5_isNumber 63 = .ok (.isub, 1) := by decide +kernel
theorem dX5_isNumber_64 : decode cX5_isNumber 64 = .ok (.bipush 10, 2) := by decide +kernel
theorem dX5_isNumber_66 : decode cX5_isNumber 66 = .ok (.if_icmp .le 5, 3) := by decide +kernel
theorem dX5_isNumber_69 : decode cX5_isNumber 69 = .ok (.iconst 0, 1) := by decide +kernel
theorem dX5_isNumber_70 : decode cX5_isNumber 70 = .ok (.ireturn, 1) := by decide +kernel
theorem dX5_isNumber_71 : decode cX5_isNumber 71 = .ok (.iload_n 2, 1) := by decide +kernel
theorem dX5_isNumber_72 : decode cX5_isNumber 72 = .ok (.istore_n 3, 1) := by decide +kernel
theorem dX5_isNumber_73 : decode cX5_isNumber 73 = .ok (.iload_n 3, 1) := by decide +kernel
theorem dX5_isNumber_74 : decode cX5_isNumber 74 = .ok (.aload_n 0, 1) := by decide +kernel
theorem dX5_isNumber_75 : decode cX5_isNumber 75 = .ok (.getfield 20, 3) := by decide +kernel
theorem dX5_isNumber_78 : decode cX5_isNumber 78 = .ok (.iload_n 1, 1) := by decide +kernel
theorem dX5_isNumber_79 : decode cX5_isNumber 79 = .ok (.iaload, 1) := by decide +kernel
theorem dX5_isNumber_80 : decode cX5_isNumber 80 = .ok (.if_icmp .ge 33, 3) := by decide +kernel
theorem dX5_isNumber_83 : decode cX5_isNumber 83 = .ok (.aload_n 0, 1) := by decide +kernel
theorem dX5_isNumber_84 : decode cX5_isNumber 84 = .ok (.getfield 13, 3) := by decide +kernel
theorem dX5_isNumber_87 : decode cX5_isNumber 87 = .ok (.iload_n 3, 1) := by decide +kernel
theorem dX5_isNumber_88 : decode cX5_isNumber 88 = .ok (.baload, 1) := by decide +kernel
theorem dX5_isNumber_89 : decode cX5_isNumber 89 = .ok (.bipush 48, 2) := by decide +kernel
theorem dX5_isNumber_91 : decode cX5_isNumber 91 = .ok (.if_icmp .lt 14, 3) := by decide +kernel
theorem dX5_isNumber_94 : decode cX5_isNumber 94 = .ok (.aload_n 0, 1) := by decide +kernel
theorem dX5_isNumber_95 : decode cX5_isNumber 95 = .ok (.getfield 13, 3) := by decide +kernel
theorem dX5_isNumber_98 : decode cX5_isNumber 98 = .ok (.iload_n 3, 1) := by decide +kernel
theorem dX5_isNumber_99 : decode cX5_isNumber 99 = .ok (.baload, 1) := by decide +kernel
theorem dX5_isNumber_100 : decode cX5_isNumber 100 = .ok (.bipush 57, 2) := by decide +kernel
theorem dX5_isNumber_102 : decode cX5_isNumber 102 = .ok (.if_icmp .le 5, 3) := by decide +kernel
theorem dX5_isNumber_105 : decode cX5_isNumber 105 = .ok (.iconst 0, 1) := by decide +kernel
theorem dX5_isNumber_106 : decode cX5_isNumber 106 = .ok (.ireturn, 1) := by decide +kernel
theorem dX5_isNumber_107 : decode cX5_isNumber 107 = .ok (.iinc 3 1, 3) := by decide +kernel
theorem dX5_isNumber_110 : decode cX5_isNumber 110 = .ok (.goto (-37), 3) := by decide +kernel
theorem dX5_isNumber_113 : decode cX5_isNumber 113 = .ok (.aload_n 0, 1) := by decide +kernel
theorem dX5_isNumber_114 : decode cX5_isNumber 114 = .ok (.iload_n 1, 1) := by decide +kernel
theorem dX5_isNumber_115 : decode cX5_isNumber 115 = .ok (.invokevirtual 81, 3) := by decide +kernel
theorem dX5_isNumber_118 : decode cX5_isNumber 118 = .ok (.lstore_n 3, 1) := by decide +kernel
theorem dX5_isNumber_119 : decode cX5_isNumber 119 = .ok (.lload_n 3, 1) := by decide +kernel
theorem dX5_isNumber_120 : decode cX5_isNumber 120 = .ok (.ldc2_w 85, 3) := by decide +kernel
theorem dX5_isNumber_123 : decode cX5_isNumber 123 = .ok (.lcmp, 1) := by decide +kernel
theorem dX5_isNumber_124 : decode cX5_isNumber 124 = .ok (.ifCond .lt 15, 3) := by decide +kernel
theorem dX5_isNumber_127 : decode cX5_isNumber 127 = .ok (.lload_n 3, 1) := by decide +kernel
theorem dX5_isNumber_128 : decode cX5_isNumber 128 = .ok (.ldc2_w 87, 3) := by decide +kernel
theorem dX5_isNumber_131 : decode cX5_isNumber 131 = .ok (.lcmp, 1) := by decide +kernel
theorem dX5_isNumber_132 : decode cX5_isNumber 132 = .ok (.ifCond .gt 7, 3) := by decide +kernel
theorem dX5_isNumber_135 : decode cX5_isNumber 135 = .ok (.iconst 1, 1) := by decide +kernel
theorem dX5_isNumber_136 : decode cX5_isNumber 136 = .ok (.goto 4, 3) := by decide +kernel
theorem dX5_isNumber_139 : decode cX5_isNumber 139 = .ok (.iconst 0, 1) := by decide +kernel
theorem dX5_isNumber_140 : decode cX5_isNumber 140 = .ok (.ireturn, 1) := by decide +kernel
theorem dX5_number_0 : decode cX5_number 0 = .ok (.aload_n 0, 1) := by decide +kernel
theorem dX5_number_1 : decode cX5_number 1 = .ok (.getfield 13, 3) := by decide +kernel
theorem dX5_number_4 : decode cX5_number 4 = .ok (.aload_n 0, 1) := by decide +kernel
theorem dX5_number_5 : decode cX5_number 5 = .ok (.getfield 16, 3) := by decide +kernel
theorem dX5_number_8 : decode cX5_number 8 = .ok (.iload_n 1, 1) := by decide +kernel
theorem dX5_number_9 : decode cX5_number 9 = .ok (.iaload, 1) := by decide +kernel
theorem dX5_number_10 : decode cX5_number 10 = .ok (.baload, 1) := by decide +kernel
theorem dX5_number_11 : decode cX5_number 11 = .ok (.bipush 45, 2) := by decide +kernel
theorem dX5_number_13 : decode cX5_number 13 = .ok (.if_icmp .ne 7, 3) := by decide +kernel
theorem dX5_number_16 : decode cX5_number 16 = .ok (.iconst 1, 1) := by decide +kernel
theorem dX5_number_17 : decode cX5_number 17 = .ok (.goto 4, 3) := by decide +kernel
theorem dX5_number_20 : decode cX5_number 20 = .ok (.iconst 0, 1) := by decide +kernel
theorem dX5_number_21 : decode cX5_number 21 = .ok (.istore_n 2, 1) := by decide +kernel
theorem dX5_number_22 : decode cX5_number 22 = .ok (.lconst 0, 1) := by decide +kernel
theorem dX5_number_23 : decode cX5_number 23 = .ok (.lstore_n 3, 1) := by decide +kernel
theorem dX5_number_24 : decode cX5_number 24 = .ok (.iload_n 2, 1) := by decide +kernel
theorem dX5_number_25 : decode cX5_number 25 = .ok (.ifCond .eq 14, 3) := by decide +kernel
theorem dX5_number_28 : decode cX5_number 28 = .ok (.aload_n 0, 1) := by decide +kernel
theorem dX5_number_29 : decode cX5_number 29 = .ok (.getfield 16, 3) := by decide +kernel
theorem dX5_number_32 : decode cX5_number 32 = .ok (.iload_n 1, 1) := by decide +kernel
theorem dX5_number_33 : decode cX5_number 33 = .ok (.iaload, 1) := by decide +kernel
theorem dX5_number_34 : decode cX5_number 34 = .ok (.iconst 1, 1) := by decide +kernel
theorem dX5_number_35 : decode cX5_number 35 = .ok (.iadd, 1) := by decide +kernel
theorem dX5_number_36 : decode cX5_number 36 = .ok (.goto 9, 3) := by decide +kernel
theorem dX5_number_39 : decode cX5_number 39 = .ok (.aload_n 0, 1) := by decide +kernel
theorem dX5_number_40 : decode cX5_number 40 = .ok (.getfield 16, 3) := by decide +kernel
theorem dX5_number_43 : decode cX5_number 43 = .ok (.iload_n 1, 1) := by decide +kernel
theorem dX5_number_44 : decode cX5_number 44 = .ok (.iaload, 1) := by decide +kernel
theorem dX5_number_45 : decode cX5_number 45 = .ok (.istore 5, 2) := by decide +kernel
theorem dX5_number_47 : decode cX5_number 47 = .ok (.iload 5, 2) := by decide +kernel
theorem dX5_number_49 : decode cX5_number 49 = .ok (.aload_n 0, 1) := by decide +kernel
theorem dX5_number_50 : decode cX5_number 50 = .ok (.getfield 20, 3) := by decide +kernel
theorem dX5_number_53 : decode cX5_number 53 = .ok (.iload_n 1, 1) := by decide +kernel
theorem dX5_number_54 : decode cX5_number 54 = .ok (.iaload, 1) := by decide +kernel
theorem dX5_number_55 : decode cX5_number 55 = .ok (.if_icmp .ge 28, 3) := by decide +kernel
theorem dX5_number_58 : decode cX5_number 58 = .ok (.ldc2_w 89, 3) := by decide +kernel
theorem dX5_number_61 : decode cX5_number 61 = .ok (.lload_n 3, 1) := by decide +kernel
theorem dX5_number_62 : decode cX5_number 62 = .ok (.lmul, 1) := by decide +kernel
theorem dX5_number_63 : decode cX5_number 63 = .ok (.aload_n 0, 1) := by decide +kernel
theorem dX5_number_64 : decode cX5_number 64 = .ok (.getfield 13, 3) := by decide +kernel
theorem dX5_number_67 : decode cX5_number 67 = .ok (.iload 5, 2) := by decide +kernel
theorem dX5_number_69 : decode cX5_number 69 = .ok (.baload, 1) := by decide +kernel
theorem dX5_number_70 : decode cX5_number 70 = .ok (.i2l, 1) := by decide +kernel
theorem dX5_number_71 : decode cX5_number 71 = .ok (.ladd, 1) := by decide +kernel
theorem dX5_number_72 : decode cX5_number 72 = .ok (.ldc2_w 91, 3) := by decide +kernel
theorem dX5_number_75 : decode cX5_number 75 = .ok (.lsub, 1) := by decide +kernel
theorem dX5_number_76 : decode cX5_number 76 = .ok (.lstore_n 3, 1) := by decide +kernel
theorem dX5_number_77 : decode cX5_number 77 = .ok (.iinc 5 1, 3) := by decide +kernel
theorem dX5_number_80 : decode cX5_number 80 = .ok (.goto (-33), 3) := by decide +kernel
theorem dX5_number_83 : decode cX5_number 83 = .ok (.iload_n 2, 1) := by decide +kernel
theorem dX5_number_84 : decode cX5_number 84 = .ok (.ifCond .eq 8, 3) := by decide +kernel
theorem dX5_number_87 : decode cX5_number 87 = .ok (.lload_n 3, 1) := by decide +kernel
theorem dX5_number_88 : decode cX5_number 88 = .ok (.lneg, 1) := by decide +kernel
theorem dX5_number_89 : decode cX5_number 89 = .ok (.goto 4, 3) := by decide +kernel
theorem dX5_number_92 : decode cX5_number 92 = .ok (.lload_n 3, 1) := by decide +kernel
theorem dX5_number_93 : decode cX5_number 93 = .ok (.lreturn, 1) := by decide +kernel
theorem dX5_takes_0 : decode cX5_takes 0 = .ok (.iload_n 1, 1) := by decide +kernel
theorem dX5_takes_1 : decode cX5_takes 1 = .ok (.ifCond .eq 13, 3) := by decide +kernel
theorem dX5_takes_4 : decode cX5_takes 4 = .ok (.aload_n 0, 1) := by decide +kernel
theorem dX5_takes_5 : decode cX5_takes 5 = .ok (.dup, 1) := by decide +kernel
theorem dX5_takes_6 : decode cX5_takes 6 = .ok (.getfield 93, 3) := by decide +kernel
theorem dX5_takes_9 : decode cX5_takes 9 = .ok (.iconst 1, 1) := by decide +kernel
theorem dX5_takes_10 : decode cX5_takes 10 = .ok (.iadd, 1) := by decide +kernel
theorem dX5_takes_11 : decode cX5_takes 11 = .ok (.putfield 93, 3) := by decide +kernel
theorem dX5_takes_14 : decode cX5_takes 14 = .ok (.iload_n 1, 1) := by decide +kernel
theorem dX5_takes_15 : decode cX5_takes 15 = .ok (.ireturn, 1) := by decide +kernel
set_option maxRecDepth 20000 in
theorem ggX5_isProgram_X5_is : GoodIn wsX5_isProgram wsX5_is := goodIn_r _ [9, 2, 10, 11, 12, 13, 14, 15, 16, 17, 18, 19, 20, 21, 22, 23, 24, 25, 26, 27, 28, 29, 30, 31, 32, 33, 34, 35, 36, 37, 38, 39, 40, 41, 42, 43, 44, 45, 46, 47, 48, 49, 50, 51, 52, 53, 54, 55, 56, 57, 58, 59, 60, 61, 128, 129, 130, 131, 132, 133, 134, 135, 136, 137, 138, 139, 140, 141, 142, 143, 144, 145] rfl (by decide +kernel)
set_option maxRecDepth 20000 in
theorem gX5_isProgram_X5_is : GoodIn wsX5_isProgram (wsV RX5 98 RX5 yX5_is wsX5_is) := goodIn_app (goodIn_of _ (by decide +kernel)) ggX5_isProgram_X5_is
set_option maxRecDepth 20000 in
theorem ggX5_isProgram_X5_takes : GoodIn wsX5_isProgram wsX5_takes := goodIn_r _ [65, 1, 128, 129, 130, 131, 132, 133, 134, 135, 136, 137, 138, 139, 140, 141, 142, 143, 144, 145] (by decide +kernel) (by decide +kernel)
set_option maxRecDepth 20000 in
theorem gX5_isProgram_X5_takes : GoodIn wsX5_isProgram (wsV RX5 102 RX5 yX5_takes wsX5_takes) := goodIn_app (goodIn_of _ (by decide +kernel)) ggX5_isProgram_X5_takes
set_option maxRecDepth 20000 in
theorem ggX5_isProgram_X5_isClassName : GoodIn wsX5_isProgram wsX5_isClassName := goodIn_r _ [69, 2, 11, 10, 70, 71, 72, 8, 73, 12, 128, 129, 130, 131, 132, 133, 134, 135, 136, 137, 138, 139, 140, 141, 142, 143, 144, 145] (by decide +kernel) (by decide +kernel)
set_option maxRecDepth 20000 in
theorem gX5_isProgram_X5_isClassName : GoodIn wsX5_isProgram (wsV RX5 106 RX5 yX5_isClassName wsX5_isClassName) := goodIn_app (goodIn_of _ (by decide +kernel)) ggX5_isProgram_X5_isClassName
set_option maxRecDepth 20000 in
theorem ggX5_isProgram_X5_isMember : GoodIn wsX5_isProgram wsX5_isMember := goodIn_r _ [77, 1, 78, 79, 80, 5, 6, 7, 8, 9, 2, 10, 11, 12, 13, 14, 15, 16, 17, 18, 19, 20, 21, 22, 23, 24, 25, 26, 27, 28, 29, 30, 31, 32, 33, 34, 35, 36, 37, 38, 39, 40, 41, 42, 43, 44, 45, 46, 47, 48, 49, 50, 51, 52, 53, 54, 55, 56, 57, 58, 59, 60, 61, 62, 63, 64, 65, 81, 82, 83, 84, 70, 71, 72, 73, 85, 86, 87, 88, 89, 90, 91, 92, 93, 94, 95, 96, 97, 98, 99, 100, 101, 102, 103, 104, 105, 106, 107, 108, 109, 110, 111, 112, 113, 114, 115, 66, 67, 68, 69, 116, 117, 118, 119, 120, 121, 122, 123, 124, 125, 126, 127, 128, 129, 130, 131, 132, 133, 134, 135, 136, 137, 138, 139, 140, 141, 142, 143, 144, 145] rfl (by decide +kernel)
set_option maxRecDepth 20000 in
theorem gX5_isProgram_X5_isMember : GoodIn wsX5_isProgram (wsV RX5 118 RX5 yX5_isMember wsX5_isMember) := goodIn_app (goodIn_of _ (by decide +kernel)) ggX5_isProgram_X5_isMember
theorem dX5_isProgram_0 : decode cX5_isProgram 0 = .ok (.aload_n 0, 1) := by decide +kernel
theorem dX5_isProgram_1 : decode cX5_isProgram 1 = .ok (.getfield 93, 3) := by decide +kernel
theorem dX5_isProgram_4 : decode cX5_isProgram 4 = .ok (.aload_n 0, 1) := by decide +kernel
theorem dX5_isProgram_5 : decode cX5_isProgram 5 = .ok (.getfield 56, 3) := by decide +kernel
theorem dX5_isProgram_8 : decode cX5_isProgram 8 = .ok (.if_icmp .ge 148, 3) := by decide +kernel
theorem dX5_isProgram_11 : decode cX5_isProgram 11 = .ok (.aload_n 0, 1) := by decide +kernel
theorem dX5_isProgram_12 : decode cX5_isProgram 12 = .ok (.aload_n 0, 1) := by decide +kernel
theorem dX5_isProgram_13 : decode cX5_isProgram 13 = .ok (.aload_n 0, 1) := by decide +kernel
theorem dX5_isProgram_14 : decode cX5_isProgram 14 = .ok (.getfield 93, 3) := by decide +kernel
theorem dX5_isProgram_17 : decode cX5_isProgram 17 = .ok (.ldc 96, 2) := by decide +kernel
theorem dX5_isProgram_19 : decode cX5_isProgram 19 = .ok (.invokevirtual 98, 3) := by decide +kernel
theorem dX5_isProgram_22 : decode cX5_isProgram 22 = .ok (.invokevirtual 102, 3) := by decide +kernel
theorem dX5_isProgram_25 : decode cX5_isProgram 25 = .ok (.ifCond .eq 18, 3) := by decide +kernel
theorem dX5_isProgram_28 : decode cX5_isProgram 28 = .ok (.aload_n 0, 1) := by decide +kernel
theorem dX5_isProgram_29 : decode cX5_isProgram 29 = .ok (.aload_n 0, 1) := by decide +kernel
theorem dX5_isProgram_30 : decode cX5_isProgram 30 = .ok (.aload_n 0, 1) := by decide +kernel
theorem dX5_isProgram_31 : decode cX5_isProgram 31 = .ok (.getfield 93, 3) := by decide +kernel
theorem dX5_isProgram_34 : decode cX5_isProgram 34 = .ok (.invokevirtual 106, 3) := by decide +kernel
theorem dX5_isProgram_37 : decode cX5_isProgram 37 = .ok (.invokevirtual 102, 3) := by decide +kernel
theorem dX5_isProgram_40 : decode cX5_isProgram 40 = .ok (.ifCond .ne 5, 3) := by decide +kernel
theorem dX5_isProgram_43 : decode cX5_isProgram 43 = .ok (.iconst 0, 1) := by decide +kernel
theorem dX5_isProgram_44 : decode cX5_isProgram 44 = .ok (.ireturn, 1) := by decide +kernel
theorem dX5_isProgram_45 : decode cX5_isProgram 45 = .ok (.aload_n 0, 1) := by decide +kernel
theorem dX5_isProgram_46 : decode cX5_isProgram 46 = .ok (.getfield 27, 3) := by decide +kernel
theorem dX5_isProgram_49 : decode cX5_isProgram 49 = .ok (.aload_n 0, 1) := by decide +kernel
theorem dX5_isProgram_50 : decode cX5_isProgram 50 = .ok (.getfield 109, 3) := by decide +kernel
theorem dX5_isProgram_53 : decode cX5_isProgram 53 = .ok (.aload_n 0, 1) := by decide +kernel
theorem dX5_isProgram_54 : decode cX5_isProgram 54 = .ok (.getfield 93, 3) := by decide +kernel
theorem dX5_isProgram_57 : decode cX5_isProgram 57 = .ok (.iconst 1, 1) := by decide +kernel
theorem dX5_isProgram_58 : decode cX5_isProgram 58 = .ok (.isub, 1) := by decide +kernel
theorem dX5_isProgram_59 : decode cX5_isProgram 59 = .ok (.iastore, 1) := by decide +kernel
theorem dX5_isProgram_60 : decode cX5_isProgram 60 = .ok (.aload_n 0, 1) := by decide +kernel
theorem dX5_isProgram_61 : decode cX5_isProgram 61 = .ok (.dup, 1) := by decide +kernel
theorem dX5_isProgram_62 : decode cX5_isProgram 62 = .ok (.getfield 109, 3) := by decide +kernel
theorem dX5_isProgram_65 : decode cX5_isProgram 65 = .ok (.iconst 1, 1) := by decide +kernel
theorem dX5_isProgram_66 : decode cX5_isProgram 66 = .ok (.iadd, 1) := by decide +kernel
theorem dX5_isProgram_67 : decode cX5_isProgram 67 = .ok (.putfield 109, 3) := by decide +kernel
theorem dX5_isProgram_70 : decode cX5_isProgram 70 = .ok (.aload_n 0, 1) := by decide +kernel
theorem dX5_isProgram_71 : decode cX5_isProgram 71 = .ok (.aload_n 0, 1) := by decide +kernel
theorem dX5_isProgram_72 : decode cX5_isProgram 72 = .ok (.aload_n 0, 1) := by decide +kernel
theorem dX5_isProgram_73 : decode cX5_isProgram 73 = .ok (.getfield 93, 3) := by decide +kernel
theorem dX5_isProgram_76 : decode cX5_isProgram 76 = .ok (.ldc 112, 2) := by decide +kernel
theorem dX5_isProgram_78 : decode cX5_isProgram 78 = .ok (.invokevirtual 98, 3) := by decide +kernel
theorem dX5_isProgram_81 : decode cX5_isProgram 81 = .ok (.invokevirtual 102, 3) := by decide +kernel
theorem dX5_isProgram_84 : decode cX5_isProgram 84 = .ok (.ifCond .eq 35, 3) := by decide +kernel
theorem dX5_isProgram_87 : decode cX5_isProgram 87 = .ok (.aload_n 0, 1) := by decide +kernel
theorem dX5_isProgram_88 : decode cX5_isProgram 88 = .ok (.aload_n 0, 1) := by decide +kernel
theorem dX5_isProgram_89 : decode cX5_isProgram 89 = .ok (.aload_n 0, 1) := by decide +kernel
theorem dX5_isProgram_90 : decode cX5_isProgram 90 = .ok (.getfield 93, 3) := by decide +kernel
theorem dX5_isProgram_93 : decode cX5_isProgram 93 = .ok (.invokevirtual 106, 3) := by decide +kernel
theorem dX5_isProgram_96 : decode cX5_isProgram 96 = .ok (.invokevirtual 102, 3) := by decide +kernel
theorem dX5_isProgram_99 : decode cX5_isProgram 99 = .ok (.ifCond .eq 20, 3) := by decide +kernel
theorem dX5_isProgram_102 : decode cX5_isProgram 102 = .ok (.aload_n 0, 1) := by decide +kernel
theorem dX5_isProgram_103 : decode cX5_isProgram 103 = .ok (.aload_n 0, 1) := by decide +kernel
theorem dX5_isProgram_104 : decode cX5_isProgram 104 = .ok (.aload_n 0, 1) := by decide +kernel
theorem dX5_isProgram_105 : decode cX5_isProgram 105 = .ok (.getfield 93, 3) := by decide +kernel
theorem dX5_isProgram_108 : decode cX5_isProgram 108 = .ok (.ldc 114, 2) := by decide +kernel
theorem dX5_isProgram_110 : decode cX5_isProgram 110 = .ok (.invokevirtual 98, 3) := by decide +kernel
theorem dX5_isProgram_113 : decode cX5_isProgram 113 = .ok (.invokevirtual 102, 3) := by decide +kernel
theorem dX5_isProgram_116 : decode cX5_isProgram 116 = .ok (.ifCond .ne 5, 3) := by decide +kernel
theorem dX5_isProgram_119 : decode cX5_isProgram 119 = .ok (.iconst 0, 1) := by decide +kernel
theorem dX5_isProgram_120 : decode cX5_isProgram 120 = .ok (.ireturn, 1) := by decide +kernel
theorem dX5_isProgram_121 : decode cX5_isProgram 121 = .ok (.aload_n 0, 1) := by decide +kernel
theorem dX5_isProgram_122 : decode cX5_isProgram 122 = .ok (.aload_n 0, 1) := by decide +kernel
theorem dX5_isProgram_123 : decode cX5_isProgram 123 = .ok (.getfield 93, 3) := by decide +kernel
theorem dX5_isProgram_126 : decode cX5_isProgram 126 = .ok (.ldc 116, 2) := by decide +kernel
theorem dX5_isProgram_128 : decode cX5_isProgram 128 = .ok (.invokevirtual 98, 3) := by decide +kernel
theorem dX5_isProgram_131 : decode cX5_isProgram 131 = .ok (.ifCond .ne 12, 3) := by decide +kernel
theorem dX5_isProgram_134 : decode cX5_isProgram 134 = .ok (.aload_n 0, 1) := by decide +kernel
theorem dX5_isProgram_135 : decode cX5_isProgram 135 = .ok (.invokevirtual 118, 3) := by decide +kernel
theorem dX5_isProgram_138 : decode cX5_isProgram 138 = .ok (.ifCond .ne (-17), 3) := by decide +kernel
theorem dX5_isProgram_141 : decode cX5_isProgram 141 = .ok (.iconst 0, 1) := by decide +kernel
theorem dX5_isProgram_142 : decode cX5_isProgram 142 = .ok (.ireturn, 1) := by decide +kernel
theorem dX5_isProgram_143 : decode cX5_isProgram 143 = .ok (.aload_n 0, 1) := by decide +kernel
theorem dX5_isProgram_144 : decode cX5_isProgram 144 = .ok (.dup, 1) := by decide +kernel
theorem dX5_isProgram_145 : decode cX5_isProgram 145 = .ok (.getfield 93, 3) := by decide +kernel
theorem dX5_isProgram_148 : decode cX5_isProgram 148 = .ok (.iconst 1, 1) := by decide +kernel
theorem dX5_isProgram_149 : decode cX5_isProgram 149 = .ok (.iadd, 1) := by decide +kernel
theorem dX5_isProgram_150 : decode cX5_isProgram 150 = .ok (.putfield 93, 3) := by decide +kernel
theorem dX5_isProgram_153 : decode cX5_isProgram 153 = .ok (.goto (-153), 3) := by decide +kernel
theorem dX5_isProgram_156 : decode cX5_isProgram 156 = .ok (.iconst 1, 1) := by decide +kernel
theorem dX5_isProgram_157 : decode cX5_isProgram 157 = .ok (.ireturn, 1) := by decide +kernel
set_option maxRecDepth 20000 in
theorem ggX5_isMember_X5_is : GoodIn wsX5_isMember wsX5_is := goodIn_r _ [9, 10, 11, 12, 13, 14, 15, 16, 17, 18, 19, 20, 21, 22, 23, 24, 25, 26, 27, 28, 29, 30, 31, 32, 33, 34, 35, 36, 37, 38, 39, 40, 41, 42, 43, 44, 45, 46, 47, 48, 49, 50, 51, 52, 53, 54, 55, 56, 57, 58, 59, 60, 61, 62, 122, 123, 124, 125, 126, 127, 128, 129, 130, 131, 132, 133, 134, 135, 136, 137, 138, 139] rfl (by decide +kernel)
set_option maxRecDepth 20000 in
theorem gX5_isMember_X5_is : GoodIn wsX5_isMember (wsV RX5 98 RX5 yX5_is wsX5_is) := goodIn_app (goodIn_of _ (by decide +kernel)) ggX5_isMember_X5_is
set_option maxRecDepth 20000 in
theorem ggX5_isMember_X5_takes : GoodIn wsX5_isMember wsX5_takes := goodIn_r _ [66, 1, 122, 123, 124, 125, 126, 127, 128, 129, 130, 131, 132, 133, 134, 135, 136, 137, 138, 139] (by decide +kernel) (by decide +kernel)
set_option maxRecDepth 20000 in
theorem gX5_isMember_X5_takes : GoodIn wsX5_isMember (wsV RX5 102 RX5 yX5_takes wsX5_takes) := goodIn_app (goodIn_of _ (by decide +kernel)) ggX5_isMember_X5_takes
set_option maxRecDepth 20000 in
theorem ggX5_isMember_X5_isSmallName : GoodIn wsX5_isMember wsX5_isSmallName := goodIn_r _ [70, 10, 12, 11, 71, 72, 73, 8, 74, 13, 122, 123, 124, 125, 126, 127, 128, 129, 130, 131, 132, 133, 134, 135, 136, 137, 138, 139] (by decide +kernel) (by decide +kernel)
set_option maxRecDepth 20000 in
theorem gX5_isMember_X5_isSmallName : GoodIn wsX5_isMember (wsV RX5 128 RX5 yX5_isSmallName wsX5_isSmallName) := goodIn_app (goodIn_of _ (by decide +kernel)) ggX5_isMember_X5_isSmallName
set_option maxRecDepth 20000 in
theorem ggX5_isMember_X5_isType : GoodIn wsX5_isMember wsX5_isType := goodIn_r _ [78, 10, 11, 12, 13, 79, 80, 81, 8, 82, 71, 72, 73, 74, 122, 123, 124, 125, 126, 127, 128, 129, 130, 131, 132, 133, 134, 135, 136, 137, 138, 139] (by decide +kernel) (by decide +kernel)
set_option maxRecDepth 20000 in
theorem gX5_isMember_X5_isType : GoodIn wsX5_isMember (wsV RX5 134 RX5 yX5_isType wsX5_isType) := goodIn_app (goodIn_of _ (by decide +kernel)) ggX5_isMember_X5_isType
set_option maxRecDepth 20000 in
theorem ggX5_isMember_X5_isNumber : GoodIn wsX5_isMember wsX5_isNumber := goodIn_r _ [86, 10, 13, 12, 11, 87, 88, 89, 90, 91, 8, 92, 93, 94, 122, 123, 124, 125, 126, 127, 128, 129, 130, 131, 132, 133, 134, 135, 136, 137, 138, 139] (by decide +kernel) (by decide +kernel)
set_option maxRecDepth 20000 in
theorem gX5_isMember_X5_isNumber : GoodIn wsX5_isMember (wsV RX5 143 RX5 yX5_isNumber wsX5_isNumber) := goodIn_app (goodIn_of _ (by decide +kernel)) ggX5_isMember_X5_isNumber
set_option maxRecDepth 20000 in
theorem ggX5_isMember_X5_isLine : GoodIn wsX5_isMember wsX5_isLine := goodIn_r _ [98, 1, 10, 12, 11, 5, 6, 7, 8, 9, 13, 14, 15, 16, 17, 18, 19, 20, 21, 22, 23, 24, 25, 26, 27, 28, 29, 30, 31, 32, 33, 34, 35, 36, 37, 38, 39, 40, 41, 42, 43, 44, 45, 46, 47, 48, 49, 50, 51, 52, 53, 54, 55, 56, 57, 58, 59, 60, 61, 62, 67, 68, 69, 70, 71, 72, 73, 74, 99, 100, 101, 102, 103, 104, 105, 63, 64, 65, 66, 106, 107, 108, 109, 110, 111, 112, 113, 83, 84, 85, 86, 87, 88, 89, 90, 91, 92, 93, 94, 114, 115, 116, 117, 118, 119, 120, 121, 75, 76, 77, 78, 79, 80, 81, 82, 122, 123, 124, 125, 126, 127, 128, 129, 130, 131, 132, 133, 134, 135, 136, 137, 138, 139] rfl (by decide +kernel)
set_option maxRecDepth 20000 in
theorem gX5_isMember_X5_isLine : GoodIn wsX5_isMember (wsV RX5 146 RX5 yX5_isLine wsX5_isLine) := goodIn_app (goodIn_of _ (by decide +kernel)) ggX5_isMember_X5_isLine
theorem dX5_isMember_0 : decode cX5_isMember 0 = .ok (.aload_n 0, 1) := by decide +kernel
theorem dX5_isMember_1 : decode cX5_isMember 1 = .ok (.aload_n 0, 1) := by decide +kernel
theorem dX5_isMember_2 : decode cX5_isMember 2 = .ok (.getfield 93, 3) := by decide +kernel
theorem dX5_isMember_5 : decode cX5_isMember 5 = .ok (.ldc 122, 2) := by decide +kernel
theorem dX5_isMember_7 : decode cX5_isMember 7 = .ok (.invokevirtual 98, 3) := by decide +kernel
theorem dX5_isMember_10 : decode cX5_isMember 10 = .ok (.ifCond .eq 7, 3) := by decide +kernel
theorem dX5_isMember_13 : decode cX5_isMember 13 = .ok (.iconst 0, 1) := by decide +kernel
theorem dX5_isMember_14 : decode cX5_isMember 14 = .ok (.goto 38, 3) := by decide +kernel
theorem dX5_isMember_17 : decode cX5_isMember 17 = .ok (.aload_n 0, 1) := by decide +kernel
theorem dX5_isMember_18 : decode cX5_isMember 18 = .ok (.aload_n 0, 1) := by decide +kernel
theorem dX5_isMember_19 : decode cX5_isMember 19 = .ok (.getfield 93, 3) := by decide +kernel
theorem dX5_isMember_22 : decode cX5_isMember 22 = .ok (.ldc 124, 2) := by decide +kernel
theorem dX5_isMember_24 : decode cX5_isMember 24 = .ok (.invokevirtual 98, 3) := by decide +kernel
theorem dX5_isMember_27 : decode cX5_isMember 27 = .ok (.ifCond .eq 7, 3) := by decide +kernel
theorem dX5_isMember_30 : decode cX5_isMember 30 = .ok (.iconst 1, 1) := by decide +kernel
theorem dX5_isMember_31 : decode cX5_isMember 31 = .ok (.goto 21, 3) := by decide +kernel
theorem dX5_isMember_34 : decode cX5_isMember 34 = .ok (.aload_n 0, 1) := by decide +kernel
theorem dX5_isMember_35 : decode cX5_isMember 35 = .ok (.aload_n 0, 1) := by decide +kernel
theorem dX5_isMember_36 : decode cX5_isMember 36 = .ok (.getfield 93, 3) := by decide +kernel
theorem dX5_isMember_39 : decode cX5_isMember 39 = .ok (.ldc 126, 2) := by decide +kernel
theorem dX5_isMember_41 : decode cX5_isMember 41 = .ok (.invokevirtual 98, 3) := by decide +kernel
theorem dX5_isMember_44 : decode cX5_isMember 44 = .ok (.ifCond .eq 7, 3) := by decide +kernel
theorem dX5_isMember_47 : decode cX5_isMember 47 = .ok (.iconst 2, 1) := by decide +kernel
theorem dX5_isMember_48 : decode cX5_isMember 48 = .ok (.goto 4, 3) := by decide +kernel
theorem dX5_isMember_51 : decode cX5_isMember 51 = .ok (.iconst (-1), 1) := by decide +kernel
theorem dX5_isMember_52 : decode cX5_isMember 52 = .ok (.istore_n 1, 1) := by decide +kernel
theorem dX5_isMember_53 : decode cX5_isMember 53 = .ok (.aload_n 0, 1) := by decide +kernel
theorem dX5_isMember_54 : decode cX5_isMember 54 = .ok (.iload_n 1, 1) := by decide +kernel
theorem dX5_isMember_55 : decode cX5_isMember 55 = .ok (.ifCond .lt 7, 3) := by decide +kernel
theorem dX5_isMember_58 : decode cX5_isMember 58 = .ok (.iconst 1, 1) := by decide +kernel
theorem dX5_isMember_59 : decode cX5_isMember 59 = .ok (.goto 4, 3) := by decide +kernel
theorem dX5_isMember_62 : decode cX5_isMember 62 = .ok (.iconst 0, 1) := by decide +kernel
theorem dX5_isMember_63 : decode cX5_isMember 63 = .ok (.invokevirtual 102, 3) := by decide +kernel
theorem dX5_isMember_66 : decode cX5_isMember 66 = .ok (.ifCond .eq 18, 3) := by decide +kernel
theorem dX5_isMember_69 : decode cX5_isMember 69 = .ok (.aload_n 0, 1) := by decide +kernel
theorem dX5_isMember_70 : decode cX5_isMember 70 = .ok (.aload_n 0, 1) := by decide +kernel
theorem dX5_isMember_71 : decode cX5_isMember 71 = .ok (.aload_n 0, 1) := by decide +kernel
theorem dX5_isMember_72 : decode cX5_isMember 72 = .ok (.getfield 93, 3) := by decide +kernel
theorem dX5_isMember_75 : decode cX5_isMember 75 = .ok (.invokevirtual 128, 3) := by decide +kernel
theorem dX5_isMember_78 : decode cX5_isMember 78 = .ok (.invokevirtual 102, 3) := by decide +kernel
theorem dX5_isMember_81 : decode cX5_isMember 81 = .ok (.ifCond .ne 5, 3) := by decide +kernel
theorem dX5_isMember_84 : decode cX5_isMember 84 = .ok (.iconst 0, 1) := by decide +kernel
theorem dX5_isMember_85 : decode cX5_isMember 85 = .ok (.ireturn, 1) := by decide +kernel
theorem dX5_isMember_86 : decode cX5_isMember 86 = .ok (.aload_n 0, 1) := by decide +kernel
theorem dX5_isMember_87 : decode cX5_isMember 87 = .ok (.getfield 30, 3) := by decide +kernel
theorem dX5_isMember_90 : decode cX5_isMember 90 = .ok (.aload_n 0, 1) := by decide +kernel
theorem dX5_isMember_91 : decode cX5_isMember 91 = .ok (.getfield 131, 3) := by decide +kernel
theorem dX5_isMember_94 : decode cX5_isMember 94 = .ok (.aload_n 0, 1) := by decide +kernel
theorem dX5_isMember_95 : decode cX5_isMember 95 = .ok (.getfield 93, 3) := by decide +kernel
theorem dX5_isMember_98 : decode cX5_isMember 98 = .ok (.iconst 1, 1) := by decide +kernel
theorem dX5_isMember_99 : decode cX5_isMember 99 = .ok (.isub, 1) := by decide +kernel
theorem dX5_isMember_100 : decode cX5_isMember 100 = .ok (.iastore, 1) := by decide +kernel
theorem dX5_isMember_101 : decode cX5_isMember 101 = .ok (.aload_n 0, 1) := by decide +kernel
theorem dX5_isMember_102 : decode cX5_isMember 102 = .ok (.getfield 33, 3) := by decide +kernel
theorem dX5_isMember_105 : decode cX5_isMember 105 = .ok (.aload_n 0, 1) := by decide +kernel
theorem dX5_isMember_106 : decode cX5_isMember 106 = .ok (.getfield 131, 3) := by decide +kernel
theorem dX5_isMember_109 : decode cX5_isMember 109 = .ok (.iload_n 1, 1) := by decide +kernel
theorem dX5_isMember_110 : decode cX5_isMember 110 = .ok (.i2b, 1) := by decide +kernel
theorem dX5_isMember_111 : decode cX5_isMember 111 = .ok (.bastore, 1) := by decide +kernel
theorem dX5_isMember_112 : decode cX5_isMember 112 = .ok (.aload_n 0, 1) := by decide +kernel
theorem dX5_isMember_113 : decode cX5_isMember 113 = .ok (.dup, 1) := by decide +kernel
theorem dX5_isMember_114 : decode cX5_isMember 114 = .ok (.getfield 131, 3) := by decide +kernel
theorem dX5_isMember_117 : decode cX5_isMember 117 = .ok (.iconst 1, 1) := by decide +kernel
theorem dX5_isMember_118 : decode cX5_isMember 118 = .ok (.iadd, 1) := by decide +kernel
theorem dX5_isMember_119 : decode cX5_isMember 119 = .ok (.putfield 131, 3) := by decide +kernel
theorem dX5_isMember_122 : decode cX5_isMember 122 = .ok (.iload_n 1, 1) := by decide +kernel
theorem dX5_isMember_123 : decode cX5_isMember 123 = .ok (.ifCond .ne 16, 3) := by decide +kernel
theorem dX5_isMember_126 : decode cX5_isMember 126 = .ok (.aload_n 0, 1) := by decide +kernel
theorem dX5_isMember_127 : decode cX5_isMember 127 = .ok (.aload_n 0, 1) := by decide +kernel
theorem dX5_isMember_128 : decode cX5_isMember 128 = .ok (.aload_n 0, 1) := by decide +kernel
theorem dX5_isMember_129 : decode cX5_isMember 129 = .ok (.getfield 93, 3) := by decide +kernel
theorem dX5_isMember_132 : decode cX5_isMember 132 = .ok (.invokevirtual 134, 3) := by decide +kernel
theorem dX5_isMember_135 : decode cX5_isMember 135 = .ok (.invokevirtual 102, 3) := by decide +kernel
theorem dX5_isMember_138 : decode cX5_isMember 138 = .ok (.ireturn, 1) := by decide +kernel
theorem dX5_isMember_139 : decode cX5_isMember 139 = .ok (.aload_n 0, 1) := by decide +kernel
theorem dX5_isMember_140 : decode cX5_isMember 140 = .ok (.aload_n 0, 1) := by decide +kernel
theorem dX5_isMember_141 : decode cX5_isMember 141 = .ok (.aload_n 0, 1) := by decide +kernel
theorem dX5_isMember_142 : decode cX5_isMember 142 = .ok (.getfield 93, 3) := by decide +kernel
theorem dX5_isMember_145 : decode cX5_isMember 145 = .ok (.ldc 137, 2) := by decide +kernel
theorem dX5_isMember_147 : decode cX5_isMember 147 = .ok (.invokevirtual 98, 3) := by decide +kernel
theorem dX5_isMember_150 : decode cX5_isMember 150 = .ok (.invokevirtual 102, 3) := by decide +kernel
theorem dX5_isMember_153 : decode cX5_isMember 153 = .ok (.ifCond .ne 5, 3) := by decide +kernel
theorem dX5_isMember_156 : decode cX5_isMember 156 = .ok (.iconst 0, 1) := by decide +kernel
theorem dX5_isMember_157 : decode cX5_isMember 157 = .ok (.ireturn, 1) := by decide +kernel
theorem dX5_isMember_158 : decode cX5_isMember 158 = .ok (.aload_n 0, 1) := by decide +kernel
theorem dX5_isMember_159 : decode cX5_isMember 159 = .ok (.aload_n 0, 1) := by decide +kernel
theorem dX5_isMember_160 : decode cX5_isMember 160 = .ok (.getfield 93, 3) := by decide +kernel
theorem dX5_isMember_163 : decode cX5_isMember 163 = .ok (.ldc 139, 2) := by decide +kernel
theorem dX5_isMember_165 : decode cX5_isMember 165 = .ok (.invokevirtual 98, 3) := by decide +kernel
theorem dX5_isMember_168 : decode cX5_isMember 168 = .ok (.ifCond .ne 20, 3) := by decide +kernel
theorem dX5_isMember_171 : decode cX5_isMember 171 = .ok (.aload_n 0, 1) := by decide +kernel
theorem dX5_isMember_172 : decode cX5_isMember 172 = .ok (.aload_n 0, 1) := by decide +kernel
theorem dX5_isMember_173 : decode cX5_isMember 173 = .ok (.aload_n 0, 1) := by decide +kernel
theorem dX5_isMember_174 : decode cX5_isMember 174 = .ok (.getfield 93, 3) := by decide +kernel
theorem dX5_isMember_177 : decode cX5_isMember 177 = .ok (.invokevirtual 134, 3) := by decide +kernel
theorem dX5_isMember_180 : decode cX5_isMember 180 = .ok (.invokevirtual 102, 3) := by decide +kernel
theorem dX5_isMember_183 : decode cX5_isMember 183 = .ok (.ifCond .ne (-25), 3) := by decide +kernel
theorem dX5_isMember_186 : decode cX5_isMember 186 = .ok (.iconst 0, 1) := by decide +kernel
theorem dX5_isMember_187 : decode cX5_isMember 187 = .ok (.ireturn, 1) := by decide +kernel
theorem dX5_isMember_188 : decode cX5_isMember 188 = .ok (.aload_n 0, 1) := by decide +kernel
theorem dX5_isMember_189 : decode cX5_isMember 189 = .ok (.dup, 1) := by decide +kernel
theorem dX5_isMember_190 : decode cX5_isMember 190 = .ok (.getfield 93, 3) := by decide +kernel
theorem dX5_isMember_193 : decode cX5_isMember 193 = .ok (.iconst 1, 1) := by decide +kernel
theorem dX5_isMember_194 : decode cX5_isMember 194 = .ok (.iadd, 1) := by decide +kernel
theorem dX5_isMember_195 : decode cX5_isMember 195 = .ok (.putfield 93, 3) := by decide +kernel
theorem dX5_isMember_198 : decode cX5_isMember 198 = .ok (.aload_n 0, 1) := by decide +kernel
theorem dX5_isMember_199 : decode cX5_isMember 199 = .ok (.aload_n 0, 1) := by decide +kernel
theorem dX5_isMember_200 : decode cX5_isMember 200 = .ok (.aload_n 0, 1) := by decide +kernel
theorem dX5_isMember_201 : decode cX5_isMember 201 = .ok (.getfield 93, 3) := by decide +kernel
theorem dX5_isMember_204 : decode cX5_isMember 204 = .ok (.ldc 141, 2) := by decide +kernel
theorem dX5_isMember_206 : decode cX5_isMember 206 = .ok (.invokevirtual 98, 3) := by decide +kernel
theorem dX5_isMember_209 : decode cX5_isMember 209 = .ok (.ifCond .ne 14, 3) := by decide +kernel
theorem dX5_isMember_212 : decode cX5_isMember 212 = .ok (.aload_n 0, 1) := by decide +kernel
theorem dX5_isMember_213 : decode cX5_isMember 213 = .ok (.aload_n 0, 1) := by decide +kernel
theorem dX5_isMember_214 : decode cX5_isMember 214 = .ok (.getfield 93, 3) := by decide +kernel
theorem dX5_isMember_217 : decode cX5_isMember 217 = .ok (.invokevirtual 134, 3) := by decide +kernel
theorem dX5_isMember_220 : decode cX5_isMember 220 = .ok (.ifCond .eq 7, 3) := by decide +kernel
theorem dX5_isMember_223 : decode cX5_isMember 223 = .ok (.iconst 1, 1) := by decide +kernel
theorem dX5_isMember_224 : decode cX5_isMember 224 = .ok (.goto 4, 3) := by decide +kernel
theorem dX5_isMember_227 : decode cX5_isMember 227 = .ok (.iconst 0, 1) := by decide +kernel
theorem dX5_isMember_228 : decode cX5_isMember 228 = .ok (.invokevirtual 102, 3) := by decide +kernel
theorem dX5_isMember_231 : decode cX5_isMember 231 = .ok (.ifCond .eq 35, 3) := by decide +kernel
theorem dX5_isMember_234 : decode cX5_isMember 234 = .ok (.aload_n 0, 1) := by decide +kernel
theorem dX5_isMember_235 : decode cX5_isMember 235 = .ok (.aload_n 0, 1) := by decide +kernel
theorem dX5_isMember_236 : decode cX5_isMember 236 = .ok (.aload_n 0, 1) := by decide +kernel
theorem dX5_isMember_237 : decode cX5_isMember 237 = .ok (.getfield 93, 3) := by decide +kernel
theorem dX5_isMember_240 : decode cX5_isMember 240 = .ok (.invokevirtual 143, 3) := by decide +kernel
theorem dX5_isMember_243 : decode cX5_isMember 243 = .ok (.invokevirtual 102, 3) := by decide +kernel
theorem dX5_isMember_246 : decode cX5_isMember 246 = .ok (.ifCond .eq 20, 3) := by decide +kernel
theorem dX5_isMember_249 : decode cX5_isMember 249 = .ok (.aload_n 0, 1) := by decide +kernel
theorem dX5_isMember_250 : decode cX5_isMember 250 = .ok (.aload_n 0, 1) := by decide +kernel
theorem dX5_isMember_251 : decode cX5_isMember 251 = .ok (.aload_n 0, 1) := by decide +kernel
theorem dX5_isMember_252 : decode cX5_isMember 252 = .ok (.getfield 93, 3) := by decide +kernel
theorem dX5_isMember_255 : decode cX5_isMember 255 = .ok (.ldc 114, 2) := by decide +kernel
theorem dX5_isMember_257 : decode cX5_isMember 257 = .ok (.invokevirtual 98, 3) := by decide +kernel
theorem dX5_isMember_260 : decode cX5_isMember 260 = .ok (.invokevirtual 102, 3) := by decide +kernel
theorem dX5_isMember_263 : decode cX5_isMember 263 = .ok (.ifCond .ne 5, 3) := by decide +kernel
theorem dX5_isMember_266 : decode cX5_isMember 266 = .ok (.iconst 0, 1) := by decide +kernel
theorem dX5_isMember_267 : decode cX5_isMember 267 = .ok (.ireturn, 1) := by decide +kernel
theorem dX5_isMember_268 : decode cX5_isMember 268 = .ok (.aload_n 0, 1) := by decide +kernel
theorem dX5_isMember_269 : decode cX5_isMember 269 = .ok (.aload_n 0, 1) := by decide +kernel
theorem dX5_isMember_270 : decode cX5_isMember 270 = .ok (.getfield 93, 3) := by decide +kernel
theorem dX5_isMember_273 : decode cX5_isMember 273 = .ok (.ldc 116, 2) := by decide +kernel
theorem dX5_isMember_275 : decode cX5_isMember 275 = .ok (.invokevirtual 98, 3) := by decide +kernel
theorem dX5_isMember_278 : decode cX5_isMember 278 = .ok (.ifCond .ne 12, 3) := by decide +kernel
theorem dX5_isMember_281 : decode cX5_isMember 281 = .ok (.aload_n 0, 1) := by decide +kernel
theorem dX5_isMember_282 : decode cX5_isMember 282 = .ok (.invokevirtual 146, 3) := by decide +kernel
theorem dX5_isMember_285 : decode cX5_isMember 285 = .ok (.ifCond .ne (-17), 3) := by decide +kernel
theorem dX5_isMember_288 : decode cX5_isMember 288 = .ok (.iconst 0, 1) := by decide +kernel
theorem dX5_isMember_289 : decode cX5_isMember 289 = .ok (.ireturn, 1) := by decide +kernel
theorem dX5_isMember_290 : decode cX5_isMember 290 = .ok (.aload_n 0, 1) := by decide +kernel
theorem dX5_isMember_291 : decode cX5_isMember 291 = .ok (.dup, 1) := by decide +kernel
theorem dX5_isMember_292 : decode cX5_isMember 292 = .ok (.getfield 93, 3) := by decide +kernel
theorem dX5_isMember_295 : decode cX5_isMember 295 = .ok (.iconst 1, 1) := by decide +kernel
theorem dX5_isMember_296 : decode cX5_isMember 296 = .ok (.iadd, 1) := by decide +kernel
theorem dX5_isMember_297 : decode cX5_isMember 297 = .ok (.putfield 93, 3) := by decide +kernel
theorem dX5_isMember_300 : decode cX5_isMember 300 = .ok (.iconst 1, 1) := by decide +kernel
theorem dX5_isMember_301 : decode cX5_isMember 301 = .ok (.ireturn, 1) := by decide +kernel
theorem dX5_begin_0 : decode cX5_begin 0 = .ok (.aload_n 0, 1) := by decide +kernel
theorem dX5_begin_1 : decode cX5_begin 1 = .ok (.getfield 36, 3) := by decide +kernel
theorem dX5_begin_4 : decode cX5_begin 4 = .ok (.aload_n 0, 1) := by decide +kernel
theorem dX5_begin_5 : decode cX5_begin 5 = .ok (.getfield 149, 3) := by decide +kernel
theorem dX5_begin_8 : decode cX5_begin 8 = .ok (.aload_n 0, 1) := by decide +kernel
theorem dX5_begin_9 : decode cX5_begin 9 = .ok (.getfield 93, 3) := by decide +kernel
theorem dX5_begin_12 : decode cX5_begin 12 = .ok (.iastore, 1) := by decide +kernel
theorem dX5_begin_13 : decode cX5_begin 13 = .ok (.aload_n 0, 1) := by decide +kernel
theorem dX5_begin_14 : decode cX5_begin 14 = .ok (.getfield 39, 3) := by decide +kernel
theorem dX5_begin_17 : decode cX5_begin 17 = .ok (.aload_n 0, 1) := by decide +kernel
theorem dX5_begin_18 : decode cX5_begin 18 = .ok (.getfield 149, 3) := by decide +kernel
theorem dX5_begin_21 : decode cX5_begin 21 = .ok (.iload_n 1, 1) := by decide +kernel
theorem dX5_begin_22 : decode cX5_begin 22 = .ok (.iastore, 1) := by decide +kernel
theorem dX5_begin_23 : decode cX5_begin 23 = .ok (.aload_n 0, 1) := by decide +kernel
theorem dX5_begin_24 : decode cX5_begin 24 = .ok (.dup, 1) := by decide +kernel
theorem dX5_begin_25 : decode cX5_begin 25 = .ok (.getfield 149, 3) := by decide +kernel
theorem dX5_begin_28 : decode cX5_begin 28 = .ok (.iconst 1, 1) := by decide +kernel
theorem dX5_begin_29 : decode cX5_begin 29 = .ok (.iadd, 1) := by decide +kernel
theorem dX5_begin_30 : decode cX5_begin 30 = .ok (.putfield 149, 3) := by decide +kernel
theorem dX5_begin_33 : decode cX5_begin 33 = .ok (.return_, 1) := by decide +kernel
set_option maxRecDepth 20000 in
theorem ggX5_isLine_X5_is : GoodIn wsX5_isLine wsX5_is := goodIn_r _ [9, 2, 4, 3, 10, 11, 12, 13, 14, 15, 16, 17, 18, 19, 20, 21, 22, 23, 24, 25, 26, 27, 28, 29, 30, 31, 32, 33, 34, 35, 36, 37, 38, 39, 40, 41, 42, 43, 44, 45, 46, 47, 48, 49, 50, 51, 52, 53, 54, 55, 56, 57, 58, 59, 115, 116, 117, 118, 119, 120, 121, 122, 123, 124, 125, 126, 127, 128, 129, 130, 131, 132] rfl (by decide +kernel)
set_option maxRecDepth 20000 in
theorem gX5_isLine_X5_is : GoodIn wsX5_isLine (wsV RX5 98 RX5 yX5_is wsX5_is) := goodIn_app (goodIn_of _ (by decide +kernel)) ggX5_isLine_X5_is
set_option maxRecDepth 20000 in
theorem ggX5_isLine_X5_isSmallName : GoodIn wsX5_isLine wsX5_isSmallName := goodIn_r _ [63, 2, 3, 4, 64, 65, 66, 8, 67, 10, 115, 116, 117, 118, 119, 120, 121, 122, 123, 124, 125, 126, 127, 128, 129, 130, 131, 132] (by decide +kernel) (by decide +kernel)
set_option maxRecDepth 20000 in
theorem gX5_isLine_X5_isSmallName : GoodIn wsX5_isLine (wsV RX5 128 RX5 yX5_isSmallName wsX5_isSmallName) := goodIn_app (goodIn_of _ (by decide +kernel)) ggX5_isLine_X5_isSmallName
set_option maxRecDepth 20000 in
theorem ggX5_isLine_X5_begin : GoodIn wsX5_isLine wsX5_begin := goodIn_r _ [71, 72, 73, 1, 74, 115, 116, 117, 118, 119, 120, 121, 122, 123, 124, 125, 126, 127, 128, 129, 130, 131, 132] (by decide +kernel) (by decide +kernel)
set_option maxRecDepth 20000 in
theorem gX5_isLine_X5_begin : GoodIn wsX5_isLine (wsV RX5 154 RX5 yX5_begin wsX5_begin) := goodIn_app (goodIn_of _ (by decide +kernel)) ggX5_isLine_X5_begin
set_option maxRecDepth 20000 in
theorem ggX5_isLine_X5_takes : GoodIn wsX5_isLine wsX5_takes := goodIn_r _ [78, 1, 115, 116, 117, 118, 119, 120, 121, 122, 123, 124, 125, 126, 127, 128, 129, 130, 131, 132] (by decide +kernel) (by decide +kernel)
set_option maxRecDepth 20000 in
theorem gX5_isLine_X5_takes : GoodIn wsX5_isLine (wsV RX5 102 RX5 yX5_takes wsX5_takes) := goodIn_app (goodIn_of _ (by decide +kernel)) ggX5_isLine_X5_takes
set_option maxRecDepth 20000 in
theorem ggX5_isLine_X5_isClassName : GoodIn wsX5_isLine wsX5_isClassName := goodIn_r _ [82, 2, 3, 4, 64, 65, 66, 8, 67, 10, 115, 116, 117, 118, 119, 120, 121, 122, 123, 124, 125, 126, 127, 128, 129, 130, 131, 132] (by decide +kernel) (by decide +kernel)
set_option maxRecDepth 20000 in
theorem gX5_isLine_X5_isClassName : GoodIn wsX5_isLine (wsV RX5 106 RX5 yX5_isClassName wsX5_isClassName) := goodIn_app (goodIn_of _ (by decide +kernel)) ggX5_isLine_X5_isClassName
set_option maxRecDepth 20000 in
theorem ggX5_isLine_X5_among : GoodIn wsX5_isLine wsX5_among := goodIn_r _ [86, 10, 11, 12, 13, 14, 15, 16, 17, 18, 19, 20, 21, 22, 23, 24, 25, 26, 27, 28, 29, 30, 31, 32, 33, 34, 35, 36, 37, 38, 39, 40, 41, 42, 43, 44, 45, 46, 47, 48, 49, 50, 51, 52, 53, 54, 55, 56, 57, 58, 59, 115, 116, 117, 118, 119, 120, 121, 122, 123, 124, 125, 126, 127, 128, 129, 130, 131, 132] rfl (by decide +kernel)
set_option maxRecDepth 20000 in
theorem gX5_isLine_X5_among : GoodIn wsX5_isLine (wsV RX5 161 RX5 yX5_among wsX5_among) := goodIn_app (goodIn_of _ (by decide +kernel)) ggX5_isLine_X5_among
set_option maxRecDepth 20000 in
theorem ggX5_isLine_J0_charAt_5068e : GoodIn wsX5_isLine wsJ0_charAt_5068e := goodIn_r _ [26, 16, 27, 28, 29, 14, 30, 21, 22, 31, 32, 33, 34, 35, 36, 37, 38, 39, 40, 41, 42, 43, 44, 45, 46, 47, 48, 49, 50, 51, 52, 53, 54, 55, 56, 57, 58, 59] (by decide +kernel) (by decide +kernel)
set_option maxRecDepth 20000 in
theorem gX5_isLine_J0_charAt_5068e : GoodIn wsX5_isLine (wsV RX5 65 RJ0 yJ0_charAt_5068e wsJ0_charAt_5068e) := goodIn_app (goodIn_of _ (by decide +kernel)) ggX5_isLine_J0_charAt_5068e
set_option maxRecDepth 20000 in
theorem ggX5_isLine_X5_isNumber : GoodIn wsX5_isLine wsX5_isNumber := goodIn_r _ [90, 2, 10, 3, 4, 91, 92, 93, 94, 95, 8, 96, 97, 98, 115, 116, 117, 118, 119, 120, 121, 122, 123, 124, 125, 126, 127, 128, 129, 130, 131, 132] (by decide +kernel) (by decide +kernel)
set_option maxRecDepth 20000 in
theorem gX5_isLine_X5_isNumber : GoodIn wsX5_isLine (wsV RX5 143 RX5 yX5_isNumber wsX5_isNumber) := goodIn_app (goodIn_of _ (by decide +kernel)) ggX5_isLine_X5_isNumber
set_option maxRecDepth 20000 in
theorem ggX5_isLine_X5_isReference : GoodIn wsX5_isLine wsX5_isReference := goodIn_r _ [102, 2, 3, 4, 103, 104, 105, 8, 106, 10, 64, 65, 66, 67, 115, 116, 117, 118, 119, 120, 121, 122, 123, 124, 125, 126, 127, 128, 129, 130, 131, 132] (by decide +kernel) (by decide +kernel)
set_option maxRecDepth 20000 in
theorem gX5_isLine_X5_isReference : GoodIn wsX5_isLine (wsV RX5 169 RX5 yX5_isReference wsX5_isReference) := goodIn_app (goodIn_of _ (by decide +kernel)) ggX5_isLine_X5_isReference
set_option maxRecDepth 20000 in
theorem ggX5_isLine_X5_isType : GoodIn wsX5_isLine wsX5_isType := goodIn_r _ [110, 2, 4, 3, 10, 111, 112, 113, 8, 114, 64, 65, 66, 67, 115, 116, 117, 118, 119, 120, 121, 122, 123, 124, 125, 126, 127, 128, 129, 130, 131, 132] (by decide +kernel) (by decide +kernel)
set_option maxRecDepth 20000 in
theorem gX5_isLine_X5_isType : GoodIn wsX5_isLine (wsV RX5 134 RX5 yX5_isType wsX5_isType) := goodIn_app (goodIn_of _ (by decide +kernel)) ggX5_isLine_X5_isType
theorem dX5_isLine_0 : decode cX5_isLine 0 = .ok (.aload_n 0, 1) := by decide +kernel
theorem dX5_isLine_1 : decode cX5_isLine 1 = .ok (.getfield 93, 3) := by decide +kernel
theorem dX5_isLine_4 : decode cX5_isLine 4 = .ok (.aload_n 0, 1) := by decide +kernel
theorem dX5_isLine_5 : decode cX5_isLine 5 = .ok (.getfield 56, 3) := by decide +kernel
theorem dX5_isLine_8 : decode cX5_isLine 8 = .ok (.if_icmp .lt 5, 3) := by decide +kernel
theorem dX5_isLine_11 : decode cX5_isLine 11 = .ok (.iconst 0, 1) := by decide +kernel
theorem dX5_isLine_12 : decode cX5_isLine 12 = .ok (.ireturn, 1) := by decide +kernel
theorem dX5_isLine_13 : decode cX5_isLine 13 = .ok (.aload_n 0, 1) := by decide +kernel
theorem dX5_isLine_14 : decode cX5_isLine 14 = .ok (.aload_n 0, 1) := by decide +kernel
theorem dX5_isLine_15 : decode cX5_isLine 15 = .ok (.getfield 93, 3) := by decide +kernel
theorem dX5_isLine_18 : decode cX5_isLine 18 = .ok (.iconst 1, 1) := by decide +kernel
theorem dX5_isLine_19 : decode cX5_isLine 19 = .ok (.iadd, 1) := by decide +kernel
theorem dX5_isLine_20 : decode cX5_isLine 20 = .ok (.ldc 152, 2) := by decide +kernel
theorem dX5_isLine_22 : decode cX5_isLine 22 = .ok (.invokevirtual 98, 3) := by decide +kernel
theorem dX5_isLine_25 : decode cX5_isLine 25 = .ok (.ifCond .eq 33, 3) := by decide +kernel
theorem dX5_isLine_28 : decode cX5_isLine 28 = .ok (.aload_n 0, 1) := by decide +kernel
theorem dX5_isLine_29 : decode cX5_isLine 29 = .ok (.aload_n 0, 1) := by decide +kernel
theorem dX5_isLine_30 : decode cX5_isLine 30 = .ok (.getfield 93, 3) := by decide +kernel
theorem dX5_isLine_33 : decode cX5_isLine 33 = .ok (.invokevirtual 128, 3) := by decide +kernel
theorem dX5_isLine_36 : decode cX5_isLine 36 = .ok (.ifCond .ne 5, 3) := by decide +kernel
theorem dX5_isLine_39 : decode cX5_isLine 39 = .ok (.iconst 0, 1) := by decide +kernel
theorem dX5_isLine_40 : decode cX5_isLine 40 = .ok (.ireturn, 1) := by decide +kernel
theorem dX5_isLine_41 : decode cX5_isLine 41 = .ok (.aload_n 0, 1) := by decide +kernel
theorem dX5_isLine_42 : decode cX5_isLine 42 = .ok (.iconst 0, 1) := by decide +kernel
theorem dX5_isLine_43 : decode cX5_isLine 43 = .ok (.invokevirtual 154, 3) := by decide +kernel
theorem dX5_isLine_46 : decode cX5_isLine 46 = .ok (.aload_n 0, 1) := by decide +kernel
theorem dX5_isLine_47 : decode cX5_isLine 47 = .ok (.dup, 1) := by decide +kernel
theorem dX5_isLine_48 : decode cX5_isLine 48 = .ok (.getfield 93, 3) := by decide +kernel
theorem dX5_isLine_51 : decode cX5_isLine 51 = .ok (.iconst 2, 1) := by decide +kernel
theorem dX5_isLine_52 : decode cX5_isLine 52 = .ok (.iadd, 1) := by decide +kernel
theorem dX5_isLine_53 : decode cX5_isLine 53 = .ok (.putfield 93, 3) := by decide +kernel
theorem dX5_isLine_56 : decode cX5_isLine 56 = .ok (.iconst 1, 1) := by decide +kernel
theorem dX5_isLine_57 : decode cX5_isLine 57 = .ok (.ireturn, 1) := by decide +kernel
theorem dX5_isLine_58 : decode cX5_isLine 58 = .ok (.aload_n 0, 1) := by decide +kernel
theorem dX5_isLine_59 : decode cX5_isLine 59 = .ok (.aload_n 0, 1) := by decide +kernel
theorem dX5_isLine_60 : decode cX5_isLine 60 = .ok (.getfield 93, 3) := by decide +kernel
theorem dX5_isLine_63 : decode cX5_isLine 63 = .ok (.ldc 157, 2) := by decide +kernel
theorem dX5_isLine_65 : decode cX5_isLine 65 = .ok (.invokevirtual 98, 3) := by decide +kernel
theorem dX5_isLine_68 : decode cX5_isLine 68 = .ok (.ifCond .eq 84, 3) := by decide +kernel
theorem dX5_isLine_71 : decode cX5_isLine 71 = .ok (.aload_n 0, 1) := by decide +kernel
theorem dX5_isLine_72 : decode cX5_isLine 72 = .ok (.iconst 1, 1) := by decide +kernel
theorem dX5_isLine_73 : decode cX5_isLine 73 = .ok (.invokevirtual 154, 3) := by decide +kernel
theorem dX5_isLine_76 : decode cX5_isLine 76 = .ok (.aload_n 0, 1) := by decide +kernel
theorem dX5_isLine_77 : decode cX5_isLine 77 = .ok (.dup, 1) := by decide +kernel
theorem dX5_isLine_78 : decode cX5_isLine 78 = .ok (.getfield 93, 3) := by decide +kernel
theorem dX5_isLine_81 : decode cX5_isLine 81 = .ok (.iconst 1, 1) := by decide +kernel
theorem dX5_isLine_82 : decode cX5_isLine 82 = .ok (.iadd, 1) := by decide +kernel
theorem dX5_isLine_83 : decode cX5_isLine 83 = .ok (.putfield 93, 3) := by decide +kernel
theorem dX5_isLine_86 : decode cX5_isLine 86 = .ok (.aload_n 0, 1) := by decide +kernel
theorem dX5_isLine_87 : decode cX5_isLine 87 = .ok (.aload_n 0, 1) := by decide +kernel
theorem dX5_isLine_88 : decode cX5_isLine 88 = .ok (.aload_n 0, 1) := by decide +kernel
theorem dX5_isLine_89 : decode cX5_isLine 89 = .ok (.getfield 93, 3) := by decide +kernel
theorem dX5_isLine_92 : decode cX5_isLine 92 = .ok (.invokevirtual 128, 3) := by decide +kernel
theorem dX5_isLine_95 : decode cX5_isLine 95 = .ok (.invokevirtual 102, 3) := by decide +kernel
theorem dX5_isLine_98 : decode cX5_isLine 98 = .ok (.ifCond .eq 52, 3) := by decide +kernel
theorem dX5_isLine_101 : decode cX5_isLine 101 = .ok (.aload_n 0, 1) := by decide +kernel
theorem dX5_isLine_102 : decode cX5_isLine 102 = .ok (.aload_n 0, 1) := by decide +kernel
theorem dX5_isLine_103 : decode cX5_isLine 103 = .ok (.aload_n 0, 1) := by decide +kernel
theorem dX5_isLine_104 : decode cX5_isLine 104 = .ok (.getfield 93, 3) := by decide +kernel
theorem dX5_isLine_107 : decode cX5_isLine 107 = .ok (.invokevirtual 128, 3) := by decide +kernel
theorem dX5_isLine_110 : decode cX5_isLine 110 = .ok (.invokevirtual 102, 3) := by decide +kernel
theorem dX5_isLine_113 : decode cX5_isLine 113 = .ok (.ifCond .eq 37, 3) := by decide +kernel
theorem dX5_isLine_116 : decode cX5_isLine 116 = .ok (.aload_n 0, 1) := by decide +kernel
theorem dX5_isLine_117 : decode cX5_isLine 117 = .ok (.aload_n 0, 1) := by decide +kernel
theorem dX5_isLine_118 : decode cX5_isLine 118 = .ok (.aload_n 0, 1) := by decide +kernel
theorem dX5_isLine_119 : decode cX5_isLine 119 = .ok (.getfield 93, 3) := by decide +kernel
theorem dX5_isLine_122 : decode cX5_isLine 122 = .ok (.invokevirtual 128, 3) := by decide +kernel
theorem dX5_isLine_125 : decode cX5_isLine 125 = .ok (.invokevirtual 102, 3) := by decide +kernel
theorem dX5_isLine_128 : decode cX5_isLine 128 = .ok (.ifCond .eq 22, 3) := by decide +kernel
theorem dX5_isLine_131 : decode cX5_isLine 131 = .ok (.aload_n 0, 1) := by decide +kernel
theorem dX5_isLine_132 : decode cX5_isLine 132 = .ok (.aload_n 0, 1) := by decide +kernel
theorem dX5_isLine_133 : decode cX5_isLine 133 = .ok (.aload_n 0, 1) := by decide +kernel
theorem dX5_isLine_134 : decode cX5_isLine 134 = .ok (.getfield 93, 3) := by decide +kernel
theorem dX5_isLine_137 : decode cX5_isLine 137 = .ok (.invokevirtual 106, 3) := by decide +kernel
theorem dX5_isLine_140 : decode cX5_isLine 140 = .ok (.invokevirtual 102, 3) := by decide +kernel
theorem dX5_isLine_143 : decode cX5_isLine 143 = .ok (.ifCond .eq 7, 3) := by decide +kernel
theorem dX5_isLine_146 : decode cX5_isLine 146 = .ok (.iconst 1, 1) := by decide +kernel
theorem dX5_isLine_147 : decode cX5_isLine 147 = .ok (.goto 4, 3) := by decide +kernel
theorem dX5_isLine_150 : decode cX5_isLine 150 = .ok (.iconst 0, 1) := by decide +kernel
theorem dX5_isLine_151 : decode cX5_isLine 151 = .ok (.ireturn, 1) := by decide +kernel
theorem dX5_isLine_152 : decode cX5_isLine 152 = .ok (.aload_n 0, 1) := by decide +kernel
theorem dX5_isLine_153 : decode cX5_isLine 153 = .ok (.aload_n 0, 1) := by decide +kernel
theorem dX5_isLine_154 : decode cX5_isLine 154 = .ok (.getfield 16, 3) := by decide +kernel
theorem dX5_isLine_157 : decode cX5_isLine 157 = .ok (.aload_n 0, 1) := by decide +kernel
theorem dX5_isLine_158 : decode cX5_isLine 158 = .ok (.getfield 93, 3) := by decide +kernel
theorem dX5_isLine_161 : decode cX5_isLine 161 = .ok (.iaload, 1) := by decide +kernel
theorem dX5_isLine_162 : decode cX5_isLine 162 = .ok (.aload_n 0, 1) := by decide +kernel
theorem dX5_isLine_163 : decode cX5_isLine 163 = .ok (.getfield 20, 3) := by decide +kernel
theorem dX5_isLine_166 : decode cX5_isLine 166 = .ok (.aload_n 0, 1) := by decide +kernel
theorem dX5_isLine_167 : decode cX5_isLine 167 = .ok (.getfield 93, 3) := by decide +kernel
theorem dX5_isLine_170 : decode cX5_isLine 170 = .ok (.iaload, 1) := by decide +kernel
theorem dX5_isLine_171 : decode cX5_isLine 171 = .ok (.ldc 159, 2) := by decide +kernel
theorem dX5_isLine_173 : decode cX5_isLine 173 = .ok (.invokevirtual 161, 3) := by decide +kernel
theorem dX5_isLine_176 : decode cX5_isLine 176 = .ok (.istore_n 1, 1) := by decide +kernel
theorem dX5_isLine_177 : decode cX5_isLine 177 = .ok (.iload_n 1, 1) := by decide +kernel
theorem dX5_isLine_178 : decode cX5_isLine 178 = .ok (.ifCond .ge 33, 3) := by decide +kernel
theorem dX5_isLine_181 : decode cX5_isLine 181 = .ok (.aload_n 0, 1) := by decide +kernel
theorem dX5_isLine_182 : decode cX5_isLine 182 = .ok (.aload_n 0, 1) := by decide +kernel
theorem dX5_isLine_183 : decode cX5_isLine 183 = .ok (.getfield 93, 3) := by decide +kernel
theorem dX5_isLine_186 : decode cX5_isLine 186 = .ok (.invokevirtual 128, 3) := by decide +kernel
theorem dX5_isLine_189 : decode cX5_isLine 189 = .ok (.ifCond .ne 5, 3) := by decide +kernel
theorem dX5_isLine_192 : decode cX5_isLine 192 = .ok (.iconst 0, 1) := by decide +kernel
theorem dX5_isLine_193 : decode cX5_isLine 193 = .ok (.ireturn, 1) := by decide +kernel
theorem dX5_isLine_194 : decode cX5_isLine 194 = .ok (.aload_n 0, 1) := by decide +kernel
theorem dX5_isLine_195 : decode cX5_isLine 195 = .ok (.iconst (-1), 1) := by decide +kernel
theorem dX5_isLine_196 : decode cX5_isLine 196 = .ok (.invokevirtual 154, 3) := by decide +kernel
theorem dX5_isLine_199 : decode cX5_isLine 199 = .ok (.aload_n 0, 1) := by decide +kernel
theorem dX5_isLine_200 : decode cX5_isLine 200 = .ok (.dup, 1) := by decide +kernel
theorem dX5_isLine_201 : decode cX5_isLine 201 = .ok (.getfield 93, 3) := by decide +kernel
theorem dX5_isLine_204 : decode cX5_isLine 204 = .ok (.iconst 1, 1) := by decide +kernel
theorem dX5_isLine_205 : decode cX5_isLine 205 = .ok (.iadd, 1) := by decide +kernel
theorem dX5_isLine_206 : decode cX5_isLine 206 = .ok (.putfield 93, 3) := by decide +kernel
theorem dX5_isLine_209 : decode cX5_isLine 209 = .ok (.iconst 0, 1) := by decide +kernel
theorem dX5_isLine_210 : decode cX5_isLine 210 = .ok (.ireturn, 1) := by decide +kernel
theorem dX5_isLine_211 : decode cX5_isLine 211 = .ok (.aload_n 0, 1) := by decide +kernel
theorem dX5_isLine_212 : decode cX5_isLine 212 = .ok (.iconst 2, 1) := by decide +kernel
theorem dX5_isLine_213 : decode cX5_isLine 213 = .ok (.iload_n 1, 1) := by decide +kernel
theorem dX5_isLine_214 : decode cX5_isLine 214 = .ok (.iadd, 1) := by decide +kernel
theorem dX5_isLine_215 : decode cX5_isLine 215 = .ok (.invokevirtual 154, 3) := by decide +kernel
theorem dX5_isLine_218 : decode cX5_isLine 218 = .ok (.aload_n 0, 1) := by decide +kernel
theorem dX5_isLine_219 : decode cX5_isLine 219 = .ok (.dup, 1) := by decide +kernel
theorem dX5_isLine_220 : decode cX5_isLine 220 = .ok (.getfield 93, 3) := by decide +kernel
theorem dX5_isLine_223 : decode cX5_isLine 223 = .ok (.iconst 1, 1) := by decide +kernel
theorem dX5_isLine_224 : decode cX5_isLine 224 = .ok (.iadd, 1) := by decide +kernel
theorem dX5_isLine_225 : decode cX5_isLine 225 = .ok (.putfield 93, 3) := by decide +kernel
theorem dX5_isLine_228 : decode cX5_isLine 228 = .ok (.ldc 165, 2) := by decide +kernel
theorem dX5_isLine_230 : decode cX5_isLine 230 = .ok (.iload_n 1, 1) := by decide +kernel
theorem dX5_isLine_231 : decode cX5_isLine 231 = .ok (.invokevirtual 65, 3) := by decide +kernel
theorem dX5_isLine_234 : decode cX5_isLine 234 = .ok (.tableswitch 242 67 84 #[148, 242, 161, 195, 242, 242, 99, 242, 86, 135, 242, 86, 242, 242, 242, 242, 242, 208], 86) := by decide +kernel
theorem dX5_isLine_320 : decode cX5_isLine 320 = .ok (.aload_n 0, 1) := by decide +kernel
theorem dX5_isLine_321 : decode cX5_isLine 321 = .ok (.aload_n 0, 1) := by decide +kernel
theorem dX5_isLine_322 : decode cX5_isLine 322 = .ok (.aload_n 0, 1) := by decide +kernel
theorem dX5_isLine_323 : decode cX5_isLine 323 = .ok (.getfield 93, 3) := by decide +kernel
theorem dX5_isLine_326 : decode cX5_isLine 326 = .ok (.invokevirtual 143, 3) := by decide +kernel
theorem dX5_isLine_329 : decode cX5_isLine 329 = .ok (.invokevirtual 102, 3) := by decide +kernel
theorem dX5_isLine_332 : decode cX5_isLine 332 = .ok (.ireturn, 1) := by decide +kernel
theorem dX5_isLine_333 : decode cX5_isLine 333 = .ok (.aload_n 0, 1) := by decide +kernel
theorem dX5_isLine_334 : decode cX5_isLine 334 = .ok (.aload_n 0, 1) := by decide +kernel
theorem dX5_isLine_335 : decode cX5_isLine 335 = .ok (.aload_n 0, 1) := by decide +kernel
theorem dX5_isLine_336 : decode cX5_isLine 336 = .ok (.getfield 93, 3) := by decide +kernel
theorem dX5_isLine_339 : decode cX5_isLine 339 = .ok (.invokevirtual 143, 3) := by decide +kernel
theorem dX5_isLine_342 : decode cX5_isLine 342 = .ok (.invokevirtual 102, 3) := by decide +kernel
theorem dX5_isLine_345 : decode cX5_isLine 345 = .ok (.ifCond .eq 22, 3) := by decide +kernel
theorem dX5_isLine_348 : decode cX5_isLine 348 = .ok (.aload_n 0, 1) := by decide +kernel
theorem dX5_isLine_349 : decode cX5_isLine 349 = .ok (.aload_n 0, 1) := by decide +kernel
theorem dX5_isLine_350 : decode cX5_isLine 350 = .ok (.aload_n 0, 1) := by decide +kernel
theorem dX5_isLine_351 : decode cX5_isLine 351 = .ok (.getfield 93, 3) := by decide +kernel
theorem dX5_isLine_354 : decode cX5_isLine 354 = .ok (.invokevirtual 143, 3) := by decide +kernel
theorem dX5_isLine_357 : decode cX5_isLine 357 = .ok (.invokevirtual 102, 3) := by decide +kernel
theorem dX5_isLine_360 : decode cX5_isLine 360 = .ok (.ifCond .eq 7, 3) := by decide +kernel
theorem dX5_isLine_363 : decode cX5_isLine 363 = .ok (.iconst 1, 1) := by decide +kernel
theorem dX5_isLine_364 : decode cX5_isLine 364 = .ok (.goto 4, 3) := by decide +kernel
theorem dX5_isLine_367 : decode cX5_isLine 367 = .ok (.iconst 0, 1) := by decide +kernel
theorem dX5_isLine_368 : decode cX5_isLine 368 = .ok (.ireturn, 1) := by decide +kernel
theorem dX5_isLine_369 : decode cX5_isLine 369 = .ok (.aload_n 0, 1) := by decide +kernel
theorem dX5_isLine_370 : decode cX5_isLine 370 = .ok (.aload_n 0, 1) := by decide +kernel
theorem dX5_isLine_371 : decode cX5_isLine 371 = .ok (.aload_n 0, 1) := by decide +kernel
theorem dX5_isLine_372 : decode cX5_isLine 372 = .ok (.getfield 93, 3) := by decide +kernel
theorem dX5_isLine_375 : decode cX5_isLine 375 = .ok (.invokevirtual 128, 3) := by decide +kernel
theorem dX5_isLine_378 : decode cX5_isLine 378 = .ok (.invokevirtual 102, 3) := by decide +kernel
theorem dX5_isLine_381 : decode cX5_isLine 381 = .ok (.ireturn, 1) := by decide +kernel
theorem dX5_isLine_382 : decode cX5_isLine 382 = .ok (.aload_n 0, 1) := by decide +kernel
theorem dX5_isLine_383 : decode cX5_isLine 383 = .ok (.aload_n 0, 1) := by decide +kernel
theorem dX5_isLine_384 : decode cX5_isLine 384 = .ok (.aload_n 0, 1) := by decide +kernel
theorem dX5_isLine_385 : decode cX5_isLine 385 = .ok (.getfield 93, 3) := by decide +kernel
theorem dX5_isLine_388 : decode cX5_isLine 388 = .ok (.invokevirtual 106, 3) := by decide +kernel
theorem dX5_isLine_391 : decode cX5_isLine 391 = .ok (.invokevirtual 102, 3) := by decide +kernel
theorem dX5_isLine_394 : decode cX5_isLine 394 = .ok (.ireturn, 1) := by decide +kernel
theorem dX5_isLine_395 : decode cX5_isLine 395 = .ok (.aload_n 0, 1) := by decide +kernel
theorem dX5_isLine_396 : decode cX5_isLine 396 = .ok (.aload_n 0, 1) := by decide +kernel
theorem dX5_isLine_397 : decode cX5_isLine 397 = .ok (.aload_n 0, 1) := by decide +kernel
theorem dX5_isLine_398 : decode cX5_isLine 398 = .ok (.getfield 93, 3) := by decide +kernel
theorem dX5_isLine_401 : decode cX5_isLine 401 = .ok (.ldc 167, 2) := by decide +kernel
theorem dX5_isLine_403 : decode cX5_isLine 403 = .ok (.invokevirtual 98, 3) := by decide +kernel
theorem dX5_isLine_406 : decode cX5_isLine 406 = .ok (.ifCond .ne 14, 3) := by decide +kernel
theorem dX5_isLine_409 : decode cX5_isLine 409 = .ok (.aload_n 0, 1) := by decide +kernel
theorem dX5_isLine_410 : decode cX5_isLine 410 = .ok (.aload_n 0, 1) := by decide +kernel
theorem dX5_isLine_411 : decode cX5_isLine 411 = .ok (.getfield 93, 3) := by decide +kernel
theorem dX5_isLine_414 : decode cX5_isLine 414 = .ok (.invokevirtual 106, 3) := by decide +kernel
theorem dX5_isLine_417 : decode cX5_isLine 417 = .ok (.ifCond .eq 7, 3) := by decide +kernel
theorem dX5_isLine_420 : decode cX5_isLine 420 = .ok (.iconst 1, 1) := by decide +kernel
theorem dX5_isLine_421 : decode cX5_isLine 421 = .ok (.goto 4, 3) := by decide +kernel
theorem dX5_isLine_424 : decode cX5_isLine 424 = .ok (.iconst 0, 1) := by decide +kernel
theorem dX5_isLine_425 : decode cX5_isLine 425 = .ok (.invokevirtual 102, 3) := by decide +kernel
theorem dX5_isLine_428 : decode cX5_isLine 428 = .ok (.ireturn, 1) := by decide +kernel
theorem dX5_isLine_429 : decode cX5_isLine 429 = .ok (.aload_n 0, 1) := by decide +kernel
theorem dX5_isLine_430 : decode cX5_isLine 430 = .ok (.aload_n 0, 1) := by decide +kernel
