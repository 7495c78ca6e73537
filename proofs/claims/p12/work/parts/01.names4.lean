theorem dX3_cut_0 : decode cX3_cut 0 = .ok (.aload_n 0, 1) := by decide +kernel
theorem dX3_cut_1 : decode cX3_cut 1 = .ok (.invokevirtual 38, 3) := by decide +kernel
theorem dX3_cut_4 : decode cX3_cut 4 = .ok (.iconst 0, 1) := by decide +kernel
theorem dX3_cut_5 : decode cX3_cut 5 = .ok (.istore_n 1, 1) := by decide +kernel
theorem dX3_cut_6 : decode cX3_cut 6 = .ok (.aload_n 0, 1) := by decide +kernel
theorem dX3_cut_7 : decode cX3_cut 7 = .ok (.getfield 31, 3) := by decide +kernel
theorem dX3_cut_10 : decode cX3_cut 10 = .ok (.getfield 41, 3) := by decide +kernel
theorem dX3_cut_13 : decode cX3_cut 13 = .ok (.istore_n 2, 1) := by decide +kernel
theorem dX3_cut_14 : decode cX3_cut 14 = .ok (.iconst 0, 1) := by decide +kernel
theorem dX3_cut_15 : decode cX3_cut 15 = .ok (.istore_n 3, 1) := by decide +kernel
theorem dX3_cut_16 : decode cX3_cut 16 = .ok (.iload_n 3, 1) := by decide +kernel
theorem dX3_cut_17 : decode cX3_cut 17 = .ok (.iload_n 2, 1) := by decide +kernel
theorem dX3_cut_18 : decode cX3_cut 18 = .ok (.if_icmp .ge 122, 3) := by decide +kernel
theorem dX3_cut_21 : decode cX3_cut 21 = .ok (.aload_n 0, 1) := by decide +kernel
theorem dX3_cut_22 : decode cX3_cut 22 = .ok (.getfield 31, 3) := by decide +kernel
theorem dX3_cut_25 : decode cX3_cut 25 = .ok (.iload_n 3, 1) := by decide +kernel
theorem dX3_cut_26 : decode cX3_cut 26 = .ok (.invokevirtual 46, 3) := by decide +kernel
theorem dX3_cut_29 : decode cX3_cut 29 = .ok (.istore 4, 2) := by decide +kernel
theorem dX3_cut_31 : decode cX3_cut 31 = .ok (.iload 4, 2) := by decide +kernel
theorem dX3_cut_33 : decode cX3_cut 33 = .ok (.invokestatic 50, 3) := by decide +kernel
theorem dX3_cut_36 : decode cX3_cut 36 = .ok (.ifCond .ne 10, 3) := by decide +kernel
theorem dX3_cut_39 : decode cX3_cut 39 = .ok (.aload_n 0, 1) := by decide +kernel
theorem dX3_cut_40 : decode cX3_cut 40 = .ok (.iload_n 3, 1) := by decide +kernel
theorem dX3_cut_41 : decode cX3_cut 41 = .ok (.invokevirtual 54, 3) := by decide +kernel
theorem dX3_cut_44 : decode cX3_cut 44 = .ok (.iconst 0, 1) := by decide +kernel
theorem dX3_cut_45 : decode cX3_cut 45 = .ok (.ireturn, 1) := by decide +kernel
theorem dX3_cut_46 : decode cX3_cut 46 = .ok (.iload 4, 2) := by decide +kernel
theorem dX3_cut_48 : decode cX3_cut 48 = .ok (.bipush 10, 2) := by decide +kernel
theorem dX3_cut_50 : decode cX3_cut 50 = .ok (.if_icmp .eq 18, 3) := by decide +kernel
theorem dX3_cut_53 : decode cX3_cut 53 = .ok (.iload_n 1, 1) := by decide +kernel
theorem dX3_cut_54 : decode cX3_cut 54 = .ok (.ifCond .ne 10, 3) := by decide +kernel
theorem dX3_cut_57 : decode cX3_cut 57 = .ok (.iload 4, 2) := by decide +kernel
theorem dX3_cut_59 : decode cX3_cut 59 = .ok (.bipush 59, 2) := by decide +kernel
theorem dX3_cut_61 : decode cX3_cut 61 = .ok (.if_icmp .ne 7, 3) := by decide +kernel
theorem dX3_cut_64 : decode cX3_cut 64 = .ok (.iconst 1, 1) := by decide +kernel
theorem dX3_cut_65 : decode cX3_cut 65 = .ok (.goto 4, 3) := by decide +kernel
theorem dX3_cut_68 : decode cX3_cut 68 = .ok (.iconst 0, 1) := by decide +kernel
theorem dX3_cut_69 : decode cX3_cut 69 = .ok (.istore_n 1, 1) := by decide +kernel
theorem dX3_cut_70 : decode cX3_cut 70 = .ok (.iload 4, 2) := by decide +kernel
theorem dX3_cut_72 : decode cX3_cut 72 = .ok (.invokestatic 58, 3) := by decide +kernel
theorem dX3_cut_75 : decode cX3_cut 75 = .ok (.istore 5, 2) := by decide +kernel
theorem dX3_cut_77 : decode cX3_cut 77 = .ok (.iload_n 1, 1) := by decide +kernel
theorem dX3_cut_78 : decode cX3_cut 78 = .ok (.ifCond .ne 11, 3) := by decide +kernel
theorem dX3_cut_81 : decode cX3_cut 81 = .ok (.iload 4, 2) := by decide +kernel
theorem dX3_cut_83 : decode cX3_cut 83 = .ok (.invokestatic 61, 3) := by decide +kernel
theorem dX3_cut_86 : decode cX3_cut 86 = .ok (.ifCond .eq 11, 3) := by decide +kernel
theorem dX3_cut_89 : decode cX3_cut 89 = .ok (.aload_n 0, 1) := by decide +kernel
theorem dX3_cut_90 : decode cX3_cut 90 = .ok (.iload_n 3, 1) := by decide +kernel
theorem dX3_cut_91 : decode cX3_cut 91 = .ok (.invokevirtual 54, 3) := by decide +kernel
theorem dX3_cut_94 : decode cX3_cut 94 = .ok (.goto 40, 3) := by decide +kernel
theorem dX3_cut_97 : decode cX3_cut 97 = .ok (.iload 5, 2) := by decide +kernel
theorem dX3_cut_99 : decode cX3_cut 99 = .ok (.ifCond .eq 22, 3) := by decide +kernel
theorem dX3_cut_102 : decode cX3_cut 102 = .ok (.aload_n 0, 1) := by decide +kernel
theorem dX3_cut_103 : decode cX3_cut 103 = .ok (.iload_n 3, 1) := by decide +kernel
theorem dX3_cut_104 : decode cX3_cut 104 = .ok (.invokevirtual 54, 3) := by decide +kernel
theorem dX3_cut_107 : decode cX3_cut 107 = .ok (.aload_n 0, 1) := by decide +kernel
theorem dX3_cut_108 : decode cX3_cut 108 = .ok (.iload_n 3, 1) := by decide +kernel
theorem dX3_cut_109 : decode cX3_cut 109 = .ok (.iload_n 3, 1) := by decide +kernel
theorem dX3_cut_110 : decode cX3_cut 110 = .ok (.iconst 1, 1) := by decide +kernel
theorem dX3_cut_111 : decode cX3_cut 111 = .ok (.iadd, 1) := by decide +kernel
theorem dX3_cut_112 : decode cX3_cut 112 = .ok (.iload 5, 2) := by decide +kernel
theorem dX3_cut_114 : decode cX3_cut 114 = .ok (.iconst (-1), 1) := by decide +kernel
theorem dX3_cut_115 : decode cX3_cut 115 = .ok (.invokevirtual 64, 3) := by decide +kernel
theorem dX3_cut_118 : decode cX3_cut 118 = .ok (.goto 16, 3) := by decide +kernel
theorem dX3_cut_121 : decode cX3_cut 121 = .ok (.aload_n 0, 1) := by decide +kernel
theorem dX3_cut_122 : decode cX3_cut 122 = .ok (.getfield 27, 3) := by decide +kernel
theorem dX3_cut_125 : decode cX3_cut 125 = .ok (.iconst (-1), 1) := by decide +kernel
theorem dX3_cut_126 : decode cX3_cut 126 = .ok (.if_icmp .ne 8, 3) := by decide +kernel
theorem dX3_cut_129 : decode cX3_cut 129 = .ok (.aload_n 0, 1) := by decide +kernel
theorem dX3_cut_130 : decode cX3_cut 130 = .ok (.iload_n 3, 1) := by decide +kernel
theorem dX3_cut_131 : decode cX3_cut 131 = .ok (.putfield 27, 3) := by decide +kernel
theorem dX3_cut_134 : decode cX3_cut 134 = .ok (.iinc 3 1, 3) := by decide +kernel
theorem dX3_cut_137 : decode cX3_cut 137 = .ok (.goto (-121), 3) := by decide +kernel
theorem dX3_cut_140 : decode cX3_cut 140 = .ok (.aload_n 0, 1) := by decide +kernel
theorem dX3_cut_141 : decode cX3_cut 141 = .ok (.iload_n 2, 1) := by decide +kernel
theorem dX3_cut_142 : decode cX3_cut 142 = .ok (.invokevirtual 54, 3) := by decide +kernel
theorem dX3_cut_145 : decode cX3_cut 145 = .ok (.iconst 1, 1) := by decide +kernel
theorem dX3_cut_146 : decode cX3_cut 146 = .ok (.ireturn, 1) := by decide +kernel
set_option maxRecDepth 20000 in
theorem ggX3_clear_X1_clear : GoodIn wsX3_clear wsX1_clear := goodIn_r _ [10, 11, 18, 19] (by decide +kernel) (by decide +kernel)
set_option maxRecDepth 20000 in
theorem gX3_clear_X1_clear : GoodIn wsX3_clear (wsV RX3 68 RX1 yX1_clear wsX1_clear) := goodIn_app (goodIn_of _ (by decide +kernel)) ggX3_clear_X1_clear
theorem dX3_clear_0 : decode cX3_clear 0 = .ok (.aload_n 0, 1) := by decide +kernel
theorem dX3_clear_1 : decode cX3_clear 1 = .ok (.getfield 12, 3) := by decide +kernel
theorem dX3_clear_4 : decode cX3_clear 4 = .ok (.invokevirtual 68, 3) := by decide +kernel
theorem dX3_clear_7 : decode cX3_clear 7 = .ok (.aload_n 0, 1) := by decide +kernel
theorem dX3_clear_8 : decode cX3_clear 8 = .ok (.getfield 18, 3) := by decide +kernel
theorem dX3_clear_11 : decode cX3_clear 11 = .ok (.invokevirtual 68, 3) := by decide +kernel
theorem dX3_clear_14 : decode cX3_clear 14 = .ok (.aload_n 0, 1) := by decide +kernel
theorem dX3_clear_15 : decode cX3_clear 15 = .ok (.getfield 21, 3) := by decide +kernel
theorem dX3_clear_18 : decode cX3_clear 18 = .ok (.invokevirtual 68, 3) := by decide +kernel
theorem dX3_clear_21 : decode cX3_clear 21 = .ok (.aload_n 0, 1) := by decide +kernel
theorem dX3_clear_22 : decode cX3_clear 22 = .ok (.getfield 24, 3) := by decide +kernel
theorem dX3_clear_25 : decode cX3_clear 25 = .ok (.invokevirtual 68, 3) := by decide +kernel
theorem dX3_clear_28 : decode cX3_clear 28 = .ok (.aload_n 0, 1) := by decide +kernel
theorem dX3_clear_29 : decode cX3_clear 29 = .ok (.iconst (-1), 1) := by decide +kernel
theorem dX3_clear_30 : decode cX3_clear 30 = .ok (.putfield 27, 3) := by decide +kernel
theorem dX3_clear_33 : decode cX3_clear 33 = .ok (.return_, 1) := by decide +kernel
set_option maxRecDepth 20000 in
theorem ggX3_endWord_X3_isName : GoodIn wsX3_endWord wsX3_isName := goodIn_r _ [6, 7, 8, 9, 10, 11, 12, 13, 14, 15, 16, 5, 17, 136, 137, 138, 139, 140, 141, 142, 143, 144, 145] (by decide +kernel) (by decide +kernel)
set_option maxRecDepth 20000 in
theorem gX3_endWord_X3_isName : GoodIn wsX3_endWord (wsV RX3 69 RX3 yX3_isName wsX3_isName) := goodIn_app (goodIn_of _ (by decide +kernel)) ggX3_endWord_X3_isName
set_option maxRecDepth 20000 in
theorem ggX3_endWord_X3_keywordKind : GoodIn wsX3_endWord wsX3_keywordKind := goodIn_r _ [21, 22, 23, 24, 5, 25, 26, 27, 28, 29, 30, 31, 32, 33, 34, 35, 36, 37, 38, 39, 40, 41, 42, 43, 44, 45, 46, 47, 48, 49, 50, 51, 52, 53, 54, 55, 56, 57, 58, 59, 60, 61, 62, 63, 64, 65, 66, 67, 68, 69, 70, 71, 72, 73, 74, 75, 76, 77, 78, 7, 8, 9, 10, 11, 12, 13, 14, 136, 137, 138, 139, 140, 141, 142, 143, 144, 145] (by decide +kernel) (by decide +kernel)
set_option maxRecDepth 20000 in
theorem gX3_endWord_X3_keywordKind : GoodIn wsX3_endWord (wsV RX3 73 RX3 yX3_keywordKind wsX3_keywordKind) := goodIn_app (goodIn_of _ (by decide +kernel)) ggX3_endWord_X3_keywordKind
set_option maxRecDepth 20000 in
theorem ggX3_endWord_X3_placeIn : GoodIn wsX3_endWord wsX3_placeIn := goodIn_r _ [25, 26, 27, 28, 29, 30, 31, 32, 33, 34, 35, 36, 37, 38, 39, 40, 41, 42, 43, 44, 45, 46, 47, 48, 49, 50, 51, 52, 53, 54, 55, 56, 57, 58, 59, 60, 61, 62, 63, 64, 65, 66, 67, 68, 69, 70, 71, 72, 73, 74, 75, 76, 77, 5, 78, 7, 8, 9, 10, 11, 12, 13, 14, 136, 137, 138, 139, 140, 141, 142, 143, 144, 145] (by decide +kernel) (by decide +kernel)
set_option maxRecDepth 20000 in
theorem gX3_endWord_X3_placeIn : GoodIn wsX3_endWord (wsV RX3 79 RX3 yX3_placeIn wsX3_placeIn) := goodIn_app (goodIn_of _ (by decide +kernel)) ggX3_endWord_X3_placeIn
set_option maxRecDepth 20000 in
theorem ggX3_endWord_X3_addToken : GoodIn wsX3_endWord wsX3_addToken := goodIn_r _ [82, 83, 84, 85, 86, 87, 88, 89, 90, 91, 92, 93, 94, 95, 96, 97, 98, 99, 100, 101, 102, 103, 104, 105, 106, 107, 108, 109, 110, 111, 112, 113, 136, 137, 138, 139, 140, 141, 144, 145] (by decide +kernel) (by decide +kernel)
set_option maxRecDepth 20000 in
theorem gX3_endWord_X3_addToken : GoodIn wsX3_endWord (wsV RX3 64 RX3 yX3_addToken wsX3_addToken) := goodIn_app (goodIn_of _ (by decide +kernel)) ggX3_endWord_X3_addToken
set_option maxRecDepth 20000 in
theorem ggX3_endWord_X3_otherKinds : GoodIn wsX3_endWord wsX3_otherKinds := goodIn_r _ [117, 2, 3, 4, 5, 6, 7, 8, 9, 10, 11, 12, 13, 14, 15, 16, 17, 118, 119, 120, 121, 122, 123, 124, 125, 126, 127, 128, 129, 130, 131, 75, 76, 77, 78, 26, 27, 28, 29, 30, 31, 32, 33, 34, 35, 36, 37, 38, 39, 40, 41, 42, 43, 44, 45, 46, 47, 48, 49, 50, 51, 52, 53, 54, 55, 56, 57, 58, 59, 60, 61, 62, 63, 64, 65, 66, 67, 68, 69, 70, 71, 72, 73, 74, 132, 133, 134, 135, 136, 137, 138, 139, 140, 141, 142, 143, 144, 145] (by decide +kernel) (by decide +kernel)
set_option maxRecDepth 20000 in
theorem gX3_endWord_X3_otherKinds : GoodIn wsX3_endWord (wsV RX3 83 RX3 yX3_otherKinds wsX3_otherKinds) := goodIn_app (goodIn_of _ (by decide +kernel)) ggX3_endWord_X3_otherKinds
theorem dX3_endWord_0 : decode cX3_endWord 0 = .ok (.aload_n 0, 1) := by decide +kernel
theorem dX3_endWord_1 : decode cX3_endWord 1 = .ok (.getfield 27, 3) := by decide +kernel
theorem dX3_endWord_4 : decode cX3_endWord 4 = .ok (.iconst (-1), 1) := by decide +kernel
theorem dX3_endWord_5 : decode cX3_endWord 5 = .ok (.if_icmp .ne 4, 3) := by decide +kernel
theorem dX3_endWord_8 : decode cX3_endWord 8 = .ok (.return_, 1) := by decide +kernel
theorem dX3_endWord_9 : decode cX3_endWord 9 = .ok (.aload_n 0, 1) := by decide +kernel
theorem dX3_endWord_10 : decode cX3_endWord 10 = .ok (.aload_n 0, 1) := by decide +kernel
theorem dX3_endWord_11 : decode cX3_endWord 11 = .ok (.getfield 27, 3) := by decide +kernel
theorem dX3_endWord_14 : decode cX3_endWord 14 = .ok (.iload_n 1, 1) := by decide +kernel
theorem dX3_endWord_15 : decode cX3_endWord 15 = .ok (.bipush 97, 2) := by decide +kernel
theorem dX3_endWord_17 : decode cX3_endWord 17 = .ok (.bipush 122, 2) := by decide +kernel
theorem dX3_endWord_19 : decode cX3_endWord 19 = .ok (.invokevirtual 69, 3) := by decide +kernel
theorem dX3_endWord_22 : decode cX3_endWord 22 = .ok (.ifCond .eq 38, 3) := by decide +kernel
theorem dX3_endWord_25 : decode cX3_endWord 25 = .ok (.aload_n 0, 1) := by decide +kernel
theorem dX3_endWord_26 : decode cX3_endWord 26 = .ok (.aload_n 0, 1) := by decide +kernel
theorem dX3_endWord_27 : decode cX3_endWord 27 = .ok (.getfield 27, 3) := by decide +kernel
theorem dX3_endWord_30 : decode cX3_endWord 30 = .ok (.iload_n 1, 1) := by decide +kernel
theorem dX3_endWord_31 : decode cX3_endWord 31 = .ok (.bipush 32, 2) := by decide +kernel
theorem dX3_endWord_33 : decode cX3_endWord 33 = .ok (.aload_n 0, 1) := by decide +kernel
theorem dX3_endWord_34 : decode cX3_endWord 34 = .ok (.aload_n 0, 1) := by decide +kernel
theorem dX3_endWord_35 : decode cX3_endWord 35 = .ok (.getfield 27, 3) := by decide +kernel
theorem dX3_endWord_38 : decode cX3_endWord 38 = .ok (.iload_n 1, 1) := by decide +kernel
theorem dX3_endWord_39 : decode cX3_endWord 39 = .ok (.invokevirtual 73, 3) := by decide +kernel
theorem dX3_endWord_42 : decode cX3_endWord 42 = .ok (.ior, 1) := by decide +kernel
theorem dX3_endWord_43 : decode cX3_endWord 43 = .ok (.aload_n 0, 1) := by decide +kernel
theorem dX3_endWord_44 : decode cX3_endWord 44 = .ok (.ldc 77, 2) := by decide +kernel
theorem dX3_endWord_46 : decode cX3_endWord 46 = .ok (.aload_n 0, 1) := by decide +kernel
theorem dX3_endWord_47 : decode cX3_endWord 47 = .ok (.getfield 27, 3) := by decide +kernel
theorem dX3_endWord_50 : decode cX3_endWord 50 = .ok (.iload_n 1, 1) := by decide +kernel
theorem dX3_endWord_51 : decode cX3_endWord 51 = .ok (.invokevirtual 79, 3) := by decide +kernel
theorem dX3_endWord_54 : decode cX3_endWord 54 = .ok (.invokevirtual 64, 3) := by decide +kernel
theorem dX3_endWord_57 : decode cX3_endWord 57 = .ok (.goto 22, 3) := by decide +kernel
theorem dX3_endWord_60 : decode cX3_endWord 60 = .ok (.aload_n 0, 1) := by decide +kernel
theorem dX3_endWord_61 : decode cX3_endWord 61 = .ok (.aload_n 0, 1) := by decide +kernel
theorem dX3_endWord_62 : decode cX3_endWord 62 = .ok (.getfield 27, 3) := by decide +kernel
theorem dX3_endWord_65 : decode cX3_endWord 65 = .ok (.iload_n 1, 1) := by decide +kernel
theorem dX3_endWord_66 : decode cX3_endWord 66 = .ok (.aload_n 0, 1) := by decide +kernel
theorem dX3_endWord_67 : decode cX3_endWord 67 = .ok (.aload_n 0, 1) := by decide +kernel
theorem dX3_endWord_68 : decode cX3_endWord 68 = .ok (.getfield 27, 3) := by decide +kernel
theorem dX3_endWord_71 : decode cX3_endWord 71 = .ok (.iload_n 1, 1) := by decide +kernel
theorem dX3_endWord_72 : decode cX3_endWord 72 = .ok (.invokevirtual 83, 3) := by decide +kernel
theorem dX3_endWord_75 : decode cX3_endWord 75 = .ok (.iconst (-1), 1) := by decide +kernel
theorem dX3_endWord_76 : decode cX3_endWord 76 = .ok (.invokevirtual 64, 3) := by decide +kernel
theorem dX3_endWord_79 : decode cX3_endWord 79 = .ok (.aload_n 0, 1) := by decide +kernel
theorem dX3_endWord_80 : decode cX3_endWord 80 = .ok (.iconst (-1), 1) := by decide +kernel
theorem dX3_endWord_81 : decode cX3_endWord 81 = .ok (.putfield 27, 3) := by decide +kernel
theorem dX3_endWord_84 : decode cX3_endWord 84 = .ok (.return_, 1) := by decide +kernel
set_option maxRecDepth 20000 in
theorem ggX3_addToken_X1_add : GoodIn wsX3_addToken wsX1_add := goodIn_r _ [9, 10, 11, 12, 13, 14, 15, 16, 17, 18, 19, 20, 21, 22, 23, 24, 25, 26, 27, 28, 29, 30, 31, 38, 39] (by decide +kernel) (by decide +kernel)
set_option maxRecDepth 20000 in
theorem gX3_addToken_X1_add : GoodIn wsX3_addToken (wsV RX3 86 RX1 yX1_add wsX1_add) := goodIn_app (goodIn_of _ (by decide +kernel)) ggX3_addToken_X1_add
theorem dX3_addToken_0 : decode cX3_addToken 0 = .ok (.aload_n 0, 1) := by decide +kernel
theorem dX3_addToken_1 : decode cX3_addToken 1 = .ok (.getfield 12, 3) := by decide +kernel
theorem dX3_addToken_4 : decode cX3_addToken 4 = .ok (.iload_n 1, 1) := by decide +kernel
theorem dX3_addToken_5 : decode cX3_addToken 5 = .ok (.invokevirtual 86, 3) := by decide +kernel
theorem dX3_addToken_8 : decode cX3_addToken 8 = .ok (.aload_n 0, 1) := by decide +kernel
theorem dX3_addToken_9 : decode cX3_addToken 9 = .ok (.getfield 18, 3) := by decide +kernel
theorem dX3_addToken_12 : decode cX3_addToken 12 = .ok (.iload_n 2, 1) := by decide +kernel
theorem dX3_addToken_13 : decode cX3_addToken 13 = .ok (.invokevirtual 86, 3) := by decide +kernel
theorem dX3_addToken_16 : decode cX3_addToken 16 = .ok (.aload_n 0, 1) := by decide +kernel
theorem dX3_addToken_17 : decode cX3_addToken 17 = .ok (.getfield 21, 3) := by decide +kernel
theorem dX3_addToken_20 : decode cX3_addToken 20 = .ok (.iload_n 3, 1) := by decide +kernel
theorem dX3_addToken_21 : decode cX3_addToken 21 = .ok (.invokevirtual 86, 3) := by decide +kernel
theorem dX3_addToken_24 : decode cX3_addToken 24 = .ok (.aload_n 0, 1) := by decide +kernel
theorem dX3_addToken_25 : decode cX3_addToken 25 = .ok (.getfield 24, 3) := by decide +kernel
theorem dX3_addToken_28 : decode cX3_addToken 28 = .ok (.iload 4, 2) := by decide +kernel
theorem dX3_addToken_30 : decode cX3_addToken 30 = .ok (.invokevirtual 86, 3) := by decide +kernel
theorem dX3_addToken_33 : decode cX3_addToken 33 = .ok (.return_, 1) := by decide +kernel
theorem dX3_isAllowed_0 : decode cX3_isAllowed 0 = .ok (.iload_n 0, 1) := by decide +kernel
theorem dX3_isAllowed_1 : decode cX3_isAllowed 1 = .ok (.bipush 9, 2) := by decide +kernel
theorem dX3_isAllowed_3 : decode cX3_isAllowed 3 = .ok (.if_icmp .eq 27, 3) := by decide +kernel
theorem dX3_isAllowed_6 : decode cX3_isAllowed 6 = .ok (.iload_n 0, 1) := by decide +kernel
theorem dX3_isAllowed_7 : decode cX3_isAllowed 7 = .ok (.bipush 10, 2) := by decide +kernel
theorem dX3_isAllowed_9 : decode cX3_isAllowed 9 = .ok (.if_icmp .eq 21, 3) := by decide +kernel
theorem dX3_isAllowed_12 : decode cX3_isAllowed 12 = .ok (.iload_n 0, 1) := by decide +kernel
theorem dX3_isAllowed_13 : decode cX3_isAllowed 13 = .ok (.bipush 13, 2) := by decide +kernel
theorem dX3_isAllowed_15 : decode cX3_isAllowed 15 = .ok (.if_icmp .eq 15, 3) := by decide +kernel
theorem dX3_isAllowed_18 : decode cX3_isAllowed 18 = .ok (.iload_n 0, 1) := by decide +kernel
theorem dX3_isAllowed_19 : decode cX3_isAllowed 19 = .ok (.bipush 32, 2) := by decide +kernel
theorem dX3_isAllowed_21 : decode cX3_isAllowed 21 = .ok (.if_icmp .lt 13, 3) := by decide +kernel
theorem dX3_isAllowed_24 : decode cX3_isAllowed 24 = .ok (.iload_n 0, 1) := by decide +kernel
theorem dX3_isAllowed_25 : decode cX3_isAllowed 25 = .ok (.bipush 126, 2) := by decide +kernel
theorem dX3_isAllowed_27 : decode cX3_isAllowed 27 = .ok (.if_icmp .gt 7, 3) := by decide +kernel
theorem dX3_isAllowed_30 : decode cX3_isAllowed 30 = .ok (.iconst 1, 1) := by decide +kernel
theorem dX3_isAllowed_31 : decode cX3_isAllowed 31 = .ok (.goto 4, 3) := by decide +kernel
theorem dX3_isAllowed_34 : decode cX3_isAllowed 34 = .ok (.iconst 0, 1) := by decide +kernel
theorem dX3_isAllowed_35 : decode cX3_isAllowed 35 = .ok (.ireturn, 1) := by decide +kernel
theorem dX3_isBlank_0 : decode cX3_isBlank 0 = .ok (.iload_n 0, 1) := by decide +kernel
theorem dX3_isBlank_1 : decode cX3_isBlank 1 = .ok (.bipush 32, 2) := by decide +kernel
theorem dX3_isBlank_3 : decode cX3_isBlank 3 = .ok (.if_icmp .gt 7, 3) := by decide +kernel
theorem dX3_isBlank_6 : decode cX3_isBlank 6 = .ok (.iconst 1, 1) := by decide +kernel
theorem dX3_isBlank_7 : decode cX3_isBlank 7 = .ok (.goto 4, 3) := by decide +kernel
theorem dX3_isBlank_10 : decode cX3_isBlank 10 = .ok (.iconst 0, 1) := by decide +kernel
theorem dX3_isBlank_11 : decode cX3_isBlank 11 = .ok (.ireturn, 1) := by decide +kernel
theorem dX3_signKind_0 : decode cX3_signKind 0 = .ok (.iload_n 0, 1) := by decide +kernel
theorem dX3_signKind_1 : decode cX3_signKind 1 = .ok (.lookupswitch 63 #[(40, 51), (41, 53), (58, 60), (123, 55), (125, 57)], 51) := by decide +kernel
theorem dX3_signKind_52 : decode cX3_signKind 52 = .ok (.iconst 1, 1) := by decide +kernel
theorem dX3_signKind_53 : decode cX3_signKind 53 = .ok (.ireturn, 1) := by decide +kernel
theorem dX3_signKind_54 : decode cX3_signKind 54 = .ok (.iconst 2, 1) := by decide +kernel
theorem dX3_signKind_55 : decode cX3_signKind 55 = .ok (.ireturn, 1) := by decide +kernel
theorem dX3_signKind_56 : decode cX3_signKind 56 = .ok (.iconst 4, 1) := by decide +kernel
theorem dX3_signKind_57 : decode cX3_signKind 57 = .ok (.ireturn, 1) := by decide +kernel
theorem dX3_signKind_58 : decode cX3_signKind 58 = .ok (.bipush 8, 2) := by decide +kernel
theorem dX3_signKind_60 : decode cX3_signKind 60 = .ok (.ireturn, 1) := by decide +kernel
theorem dX3_signKind_61 : decode cX3_signKind 61 = .ok (.bipush 16, 2) := by decide +kernel
theorem dX3_signKind_63 : decode cX3_signKind 63 = .ok (.ireturn, 1) := by decide +kernel
theorem dX3_signKind_64 : decode cX3_signKind 64 = .ok (.iconst 0, 1) := by decide +kernel
theorem dX3_signKind_65 : decode cX3_signKind 65 = .ok (.ireturn, 1) := by decide +kernel
set_option maxRecDepth 20000 in
theorem ggX3_keywordKind_X3_placeIn : GoodIn wsX3_keywordKind wsX3_placeIn := goodIn_r _ [5, 6, 7, 8, 9, 10, 11, 12, 13, 14, 15, 16, 17, 18, 19, 20, 21, 22, 23, 24, 25, 26, 27, 28, 29, 30, 31, 32, 33, 34, 35, 36, 37, 38, 39, 40, 41, 42, 43, 44, 45, 46, 47, 48, 49, 50, 51, 52, 53, 54, 55, 56, 57, 4, 58, 59, 60, 61, 62, 63, 64, 65, 66, 67, 68, 69, 70, 71, 72, 73, 74, 75, 76] (by decide +kernel) (by decide +kernel)
set_option maxRecDepth 20000 in
theorem gX3_keywordKind_X3_placeIn : GoodIn wsX3_keywordKind (wsV RX3 79 RX3 yX3_placeIn wsX3_placeIn) := goodIn_app (goodIn_of _ (by decide +kernel)) ggX3_keywordKind_X3_placeIn
theorem dX3_keywordKind_0 : decode cX3_keywordKind 0 = .ok (.aload_n 0, 1) := by decide +kernel
theorem dX3_keywordKind_1 : decode cX3_keywordKind 1 = .ok (.ldc 89, 2) := by decide +kernel
theorem dX3_keywordKind_3 : decode cX3_keywordKind 3 = .ok (.iload_n 1, 1) := by decide +kernel
theorem dX3_keywordKind_4 : decode cX3_keywordKind 4 = .ok (.iload_n 2, 1) := by decide +kernel
theorem dX3_keywordKind_5 : decode cX3_keywordKind 5 = .ok (.invokevirtual 79, 3) := by decide +kernel
theorem dX3_keywordKind_8 : decode cX3_keywordKind 8 = .ok (.istore_n 3, 1) := by decide +kernel
theorem dX3_keywordKind_9 : decode cX3_keywordKind 9 = .ok (.iload_n 3, 1) := by decide +kernel
theorem dX3_keywordKind_10 : decode cX3_keywordKind 10 = .ok (.iconst (-1), 1) := by decide +kernel
theorem dX3_keywordKind_11 : decode cX3_keywordKind 11 = .ok (.if_icmp .ne 7, 3) := by decide +kernel
theorem dX3_keywordKind_14 : decode cX3_keywordKind 14 = .ok (.iconst 0, 1) := by decide +kernel
theorem dX3_keywordKind_15 : decode cX3_keywordKind 15 = .ok (.goto 8, 3) := by decide +kernel
theorem dX3_keywordKind_18 : decode cX3_keywordKind 18 = .ok (.sipush 1024, 3) := by decide +kernel
theorem dX3_keywordKind_21 : decode cX3_keywordKind 21 = .ok (.iload_n 3, 1) := by decide +kernel
theorem dX3_keywordKind_22 : decode cX3_keywordKind 22 = .ok (.ishl, 1) := by decide +kernel
theorem dX3_keywordKind_23 : decode cX3_keywordKind 23 = .ok (.ireturn, 1) := by decide +kernel
set_option maxRecDepth 20000 in
theorem ggX3_otherKinds_X3_isName : GoodIn wsX3_otherKinds wsX3_isName := goodIn_r _ [5, 6, 7, 8, 9, 10, 11, 12, 13, 14, 15, 4, 16, 88, 89, 90, 91, 92, 93, 94, 95, 96, 97] (by decide +kernel) (by decide +kernel)
set_option maxRecDepth 20000 in
theorem gX3_otherKinds_X3_isName : GoodIn wsX3_otherKinds (wsV RX3 69 RX3 yX3_isName wsX3_isName) := goodIn_app (goodIn_of _ (by decide +kernel)) ggX3_otherKinds_X3_isName
set_option maxRecDepth 20000 in
theorem ggX3_otherKinds_X3_isNumber : GoodIn wsX3_otherKinds wsX3_isNumber := goodIn_r _ [20, 6, 21, 22, 23, 7, 8, 9, 10, 11, 12, 13, 24, 25, 4, 26, 88, 89, 90, 91, 92, 93, 94, 95, 96, 97] (by decide +kernel) (by decide +kernel)
set_option maxRecDepth 20000 in
theorem gX3_otherKinds_X3_isNumber : GoodIn wsX3_otherKinds (wsV RX3 91 RX3 yX3_isNumber wsX3_isNumber) := goodIn_app (goodIn_of _ (by decide +kernel)) ggX3_otherKinds_X3_isNumber
set_option maxRecDepth 20000 in
theorem ggX3_otherKinds_X3_isRowType : GoodIn wsX3_otherKinds wsX3_isRowType := goodIn_r _ [30, 6, 7, 8, 9, 10, 11, 12, 13, 1, 2, 3, 4, 5, 14, 15, 16, 31, 32, 33, 34, 35, 36, 37, 38, 39, 40, 41, 42, 43, 44, 45, 46, 47, 48, 49, 50, 51, 52, 53, 54, 55, 56, 57, 58, 59, 60, 61, 62, 63, 64, 65, 66, 67, 68, 69, 70, 71, 72, 73, 74, 75, 76, 77, 78, 79, 80, 81, 82, 83, 88, 89, 90, 91, 92, 93, 94, 95, 96, 97] (by decide +kernel) (by decide +kernel)
set_option maxRecDepth 20000 in
theorem gX3_otherKinds_X3_isRowType : GoodIn wsX3_otherKinds (wsV RX3 95 RX3 yX3_isRowType wsX3_isRowType) := goodIn_app (goodIn_of _ (by decide +kernel)) ggX3_otherKinds_X3_isRowType
set_option maxRecDepth 20000 in
theorem ggX3_otherKinds_X3_isReference : GoodIn wsX3_otherKinds wsX3_isReference := goodIn_r _ [87, 6, 7, 8, 9, 10, 11, 12, 13, 1, 2, 3, 4, 5, 14, 15, 16, 88, 89, 90, 91, 92, 93, 94, 95, 96, 97] (by decide +kernel) (by decide +kernel)
set_option maxRecDepth 20000 in
theorem gX3_otherKinds_X3_isReference : GoodIn wsX3_otherKinds (wsV RX3 98 RX3 yX3_isReference wsX3_isReference) := goodIn_app (goodIn_of _ (by decide +kernel)) ggX3_otherKinds_X3_isReference
theorem dX3_otherKinds_0 : decode cX3_otherKinds 0 = .ok (.aload_n 0, 1) := by decide +kernel
theorem dX3_otherKinds_1 : decode cX3_otherKinds 1 = .ok (.iload_n 1, 1) := by decide +kernel
theorem dX3_otherKinds_2 : decode cX3_otherKinds 2 = .ok (.iload_n 2, 1) := by decide +kernel
theorem dX3_otherKinds_3 : decode cX3_otherKinds 3 = .ok (.bipush 65, 2) := by decide +kernel
theorem dX3_otherKinds_5 : decode cX3_otherKinds 5 = .ok (.bipush 90, 2) := by decide +kernel
theorem dX3_otherKinds_7 : decode cX3_otherKinds 7 = .ok (.invokevirtual 69, 3) := by decide +kernel
theorem dX3_otherKinds_10 : decode cX3_otherKinds 10 = .ok (.ifCond .eq 6, 3) := by decide +kernel
theorem dX3_otherKinds_13 : decode cX3_otherKinds 13 = .ok (.bipush 64, 2) := by decide +kernel
theorem dX3_otherKinds_15 : decode cX3_otherKinds 15 = .ok (.ireturn, 1) := by decide +kernel
theorem dX3_otherKinds_16 : decode cX3_otherKinds 16 = .ok (.aload_n 0, 1) := by decide +kernel
theorem dX3_otherKinds_17 : decode cX3_otherKinds 17 = .ok (.iload_n 1, 1) := by decide +kernel
theorem dX3_otherKinds_18 : decode cX3_otherKinds 18 = .ok (.iload_n 2, 1) := by decide +kernel
theorem dX3_otherKinds_19 : decode cX3_otherKinds 19 = .ok (.invokevirtual 91, 3) := by decide +kernel
theorem dX3_otherKinds_22 : decode cX3_otherKinds 22 = .ok (.ifCond .eq 7, 3) := by decide +kernel
theorem dX3_otherKinds_25 : decode cX3_otherKinds 25 = .ok (.sipush 128, 3) := by decide +kernel
theorem dX3_otherKinds_28 : decode cX3_otherKinds 28 = .ok (.ireturn, 1) := by decide +kernel
theorem dX3_otherKinds_29 : decode cX3_otherKinds 29 = .ok (.aload_n 0, 1) := by decide +kernel
theorem dX3_otherKinds_30 : decode cX3_otherKinds 30 = .ok (.iload_n 1, 1) := by decide +kernel
theorem dX3_otherKinds_31 : decode cX3_otherKinds 31 = .ok (.iload_n 2, 1) := by decide +kernel
theorem dX3_otherKinds_32 : decode cX3_otherKinds 32 = .ok (.invokevirtual 95, 3) := by decide +kernel
theorem dX3_otherKinds_35 : decode cX3_otherKinds 35 = .ok (.ifCond .eq 7, 3) := by decide +kernel
theorem dX3_otherKinds_38 : decode cX3_otherKinds 38 = .ok (.sipush 256, 3) := by decide +kernel
theorem dX3_otherKinds_41 : decode cX3_otherKinds 41 = .ok (.ireturn, 1) := by decide +kernel
theorem dX3_otherKinds_42 : decode cX3_otherKinds 42 = .ok (.aload_n 0, 1) := by decide +kernel
theorem dX3_otherKinds_43 : decode cX3_otherKinds 43 = .ok (.iload_n 1, 1) := by decide +kernel
theorem dX3_otherKinds_44 : decode cX3_otherKinds 44 = .ok (.iload_n 2, 1) := by decide +kernel
theorem dX3_otherKinds_45 : decode cX3_otherKinds 45 = .ok (.invokevirtual 98, 3) := by decide +kernel
theorem dX3_otherKinds_48 : decode cX3_otherKinds 48 = .ok (.ifCond .eq 9, 3) := by decide +kernel
theorem dX3_otherKinds_51 : decode cX3_otherKinds 51 = .ok (.sipush 512, 3) := by decide +kernel
theorem dX3_otherKinds_54 : decode cX3_otherKinds 54 = .ok (.goto 4, 3) := by decide +kernel
theorem dX3_otherKinds_57 : decode cX3_otherKinds 57 = .ok (.iconst 0, 1) := by decide +kernel
theorem dX3_otherKinds_58 : decode cX3_otherKinds 58 = .ok (.ireturn, 1) := by decide +kernel
set_option maxRecDepth 20000 in
theorem ggX3_isName_X2_at : GoodIn wsX3_isName wsX2_at := goodIn_r _ [6, 7, 8, 19, 20, 21, 22] (by decide +kernel) (by decide +kernel)
set_option maxRecDepth 20000 in
theorem gX3_isName_X2_at : GoodIn wsX3_isName (wsV RX3 46 RX2 yX2_at wsX2_at) := goodIn_app (goodIn_of _ (by decide +kernel)) ggX3_isName_X2_at
set_option maxRecDepth 20000 in
theorem ggX3_isName_X3_isNamePart : GoodIn wsX3_isName wsX3_isNamePart := goodIn_r _ [12] (by decide +kernel) (by decide +kernel)
set_option maxRecDepth 20000 in
theorem gX3_isName_X3_isNamePart : GoodIn wsX3_isName (va_wsS RX3 101 yX3_isNamePart wsX3_isNamePart) := goodIn_app (goodIn_of _ (by decide +kernel)) ggX3_isName_X3_isNamePart
theorem dX3_isName_0 : decode cX3_isName 0 = .ok (.iload_n 2, 1) := by decide +kernel
theorem dX3_isName_1 : decode cX3_isName 1 = .ok (.iload_n 1, 1) := by decide +kernel
theorem dX3_isName_2 : decode cX3_isName 2 = .ok (.if_icmp .le 36, 3) := by decide +kernel
theorem dX3_isName_5 : decode cX3_isName 5 = .ok (.iload_n 2, 1) := by decide +kernel
theorem dX3_isName_6 : decode cX3_isName 6 = .ok (.iload_n 1, 1) := by decide +kernel
theorem dX3_isName_7 : decode cX3_isName 7 = .ok (.isub, 1) := by decide +kernel
theorem dX3_isName_8 : decode cX3_isName 8 = .ok (.bipush 24, 2) := by decide +kernel
theorem dX3_isName_10 : decode cX3_isName 10 = .ok (.if_icmp .gt 28, 3) := by decide +kernel
theorem dX3_isName_13 : decode cX3_isName 13 = .ok (.aload_n 0, 1) := by decide +kernel
theorem dX3_isName_14 : decode cX3_isName 14 = .ok (.getfield 31, 3) := by decide +kernel
theorem dX3_isName_17 : decode cX3_isName 17 = .ok (.iload_n 1, 1) := by decide +kernel
theorem dX3_isName_18 : decode cX3_isName 18 = .ok (.invokevirtual 46, 3) := by decide +kernel
theorem dX3_isName_21 : decode cX3_isName 21 = .ok (.iload_n 3, 1) := by decide +kernel
theorem dX3_isName_22 : decode cX3_isName 22 = .ok (.if_icmp .lt 16, 3) := by decide +kernel
theorem dX3_isName_25 : decode cX3_isName 25 = .ok (.aload_n 0, 1) := by decide +kernel
theorem dX3_isName_26 : decode cX3_isName 26 = .ok (.getfield 31, 3) := by decide +kernel
theorem dX3_isName_29 : decode cX3_isName 29 = .ok (.iload_n 1, 1) := by decide +kernel
theorem dX3_isName_30 : decode cX3_isName 30 = .ok (.invokevirtual 46, 3) := by decide +kernel
theorem dX3_isName_33 : decode cX3_isName 33 = .ok (.iload 4, 2) := by decide +kernel
theorem dX3_isName_35 : decode cX3_isName 35 = .ok (.if_icmp .le 5, 3) := by decide +kernel
theorem dX3_isName_38 : decode cX3_isName 38 = .ok (.iconst 0, 1) := by decide +kernel
theorem dX3_isName_39 : decode cX3_isName 39 = .ok (.ireturn, 1) := by decide +kernel
theorem dX3_isName_40 : decode cX3_isName 40 = .ok (.iload_n 1, 1) := by decide +kernel
theorem dX3_isName_41 : decode cX3_isName 41 = .ok (.iconst 1, 1) := by decide +kernel
theorem dX3_isName_42 : decode cX3_isName 42 = .ok (.iadd, 1) := by decide +kernel
theorem dX3_isName_43 : decode cX3_isName 43 = .ok (.istore 5, 2) := by decide +kernel
theorem dX3_isName_45 : decode cX3_isName 45 = .ok (.iload 5, 2) := by decide +kernel
theorem dX3_isName_47 : decode cX3_isName 47 = .ok (.iload_n 2, 1) := by decide +kernel
theorem dX3_isName_48 : decode cX3_isName 48 = .ok (.if_icmp .ge 26, 3) := by decide +kernel
theorem dX3_isName_51 : decode cX3_isName 51 = .ok (.aload_n 0, 1) := by decide +kernel
theorem dX3_isName_52 : decode cX3_isName 52 = .ok (.getfield 31, 3) := by decide +kernel
theorem dX3_isName_55 : decode cX3_isName 55 = .ok (.iload 5, 2) := by decide +kernel
theorem dX3_isName_57 : decode cX3_isName 57 = .ok (.invokevirtual 46, 3) := by decide +kernel
theorem dX3_isName_60 : decode cX3_isName 60 = .ok (.invokestatic 101, 3) := by decide +kernel
theorem dX3_isName_63 : decode cX3_isName 63 = .ok (.ifCond .ne 5, 3) := by decide +kernel
theorem dX3_isName_66 : decode cX3_isName 66 = .ok (.iconst 0, 1) := by decide +kernel
theorem dX3_isName_67 : decode cX3_isName 67 = .ok (.ireturn, 1) := by decide +kernel
theorem dX3_isName_68 : decode cX3_isName 68 = .ok (.iinc 5 1, 3) := by decide +kernel
theorem dX3_isName_71 : decode cX3_isName 71 = .ok (.goto (-26), 3) := by decide +kernel
theorem dX3_isName_74 : decode cX3_isName 74 = .ok (.iconst 1, 1) := by decide +kernel
theorem dX3_isName_75 : decode cX3_isName 75 = .ok (.ireturn, 1) := by decide +kernel
theorem dX3_isNamePart_0 : decode cX3_isNamePart 0 = .ok (.iload_n 0, 1) := by decide +kernel
theorem dX3_isNamePart_1 : decode cX3_isNamePart 1 = .ok (.bipush 97, 2) := by decide +kernel
theorem dX3_isNamePart_3 : decode cX3_isNamePart 3 = .ok (.if_icmp .lt 9, 3) := by decide +kernel
theorem dX3_isNamePart_6 : decode cX3_isNamePart 6 = .ok (.iload_n 0, 1) := by decide +kernel
theorem dX3_isNamePart_7 : decode cX3_isNamePart 7 = .ok (.bipush 122, 2) := by decide +kernel
theorem dX3_isNamePart_9 : decode cX3_isNamePart 9 = .ok (.if_icmp .le 33, 3) := by decide +kernel
theorem dX3_isNamePart_12 : decode cX3_isNamePart 12 = .ok (.iload_n 0, 1) := by decide +kernel
theorem dX3_isNamePart_13 : decode cX3_isNamePart 13 = .ok (.bipush 65, 2) := by decide +kernel
theorem dX3_isNamePart_15 : decode cX3_isNamePart 15 = .ok (.if_icmp .lt 9, 3) := by decide +kernel
theorem dX3_isNamePart_18 : decode cX3_isNamePart 18 = .ok (.iload_n 0, 1) := by decide +kernel
theorem dX3_isNamePart_19 : decode cX3_isNamePart 19 = .ok (.bipush 90, 2) := by decide +kernel
theorem dX3_isNamePart_21 : decode cX3_isNamePart 21 = .ok (.if_icmp .le 21, 3) := by decide +kernel
theorem dX3_isNamePart_24 : decode cX3_isNamePart 24 = .ok (.iload_n 0, 1) := by decide +kernel
theorem dX3_isNamePart_25 : decode cX3_isNamePart 25 = .ok (.bipush 48, 2) := by decide +kernel
theorem dX3_isNamePart_27 : decode cX3_isNamePart 27 = .ok (.if_icmp .lt 9, 3) := by decide +kernel
theorem dX3_isNamePart_30 : decode cX3_isNamePart 30 = .ok (.iload_n 0, 1) := by decide +kernel
theorem dX3_isNamePart_31 : decode cX3_isNamePart 31 = .ok (.bipush 57, 2) := by decide +kernel
theorem dX3_isNamePart_33 : decode cX3_isNamePart 33 = .ok (.if_icmp .le 9, 3) := by decide +kernel
theorem dX3_isNamePart_36 : decode cX3_isNamePart 36 = .ok (.iload_n 0, 1) := by decide +kernel
theorem dX3_isNamePart_37 : decode cX3_isNamePart 37 = .ok (.bipush 95, 2) := by decide +kernel
theorem dX3_isNamePart_39 : decode cX3_isNamePart 39 = .ok (.if_icmp .ne 7, 3) := by decide +kernel
theorem dX3_isNamePart_42 : decode cX3_isNamePart 42 = .ok (.iconst 1, 1) := by decide +kernel
theorem dX3_isNamePart_43 : decode cX3_isNamePart 43 = .ok (.goto 4, 3) := by decide +kernel
theorem dX3_isNamePart_46 : decode cX3_isNamePart 46 = .ok (.iconst 0, 1) := by decide +kernel
theorem dX3_isNamePart_47 : decode cX3_isNamePart 47 = .ok (.ireturn, 1) := by decide +kernel
theorem dX3_isDigit_0 : decode cX3_isDigit 0 = .ok (.iload_n 0, 1) := by decide +kernel
theorem dX3_isDigit_1 : decode cX3_isDigit 1 = .ok (.bipush 48, 2) := by decide +kernel
theorem dX3_isDigit_3 : decode cX3_isDigit 3 = .ok (.if_icmp .lt 13, 3) := by decide +kernel
theorem dX3_isDigit_6 : decode cX3_isDigit 6 = .ok (.iload_n 0, 1) := by decide +kernel
theorem dX3_isDigit_7 : decode cX3_isDigit 7 = .ok (.bipush 57, 2) := by decide +kernel
theorem dX3_isDigit_9 : decode cX3_isDigit 9 = .ok (.if_icmp .gt 7, 3) := by decide +kernel
theorem dX3_isDigit_12 : decode cX3_isDigit 12 = .ok (.iconst 1, 1) := by decide +kernel
theorem dX3_isDigit_13 : decode cX3_isDigit 13 = .ok (.goto 4, 3) := by decide +kernel
theorem dX3_isDigit_16 : decode cX3_isDigit 16 = .ok (.iconst 0, 1) := by decide +kernel
theorem dX3_isDigit_17 : decode cX3_isDigit 17 = .ok (.ireturn, 1) := by decide +kernel
set_option maxRecDepth 20000 in
theorem ggX3_isNumber_X2_at : GoodIn wsX3_isNumber wsX2_at := goodIn_r _ [9, 10, 11, 22, 23, 24, 25] (by decide +kernel) (by decide +kernel)
set_option maxRecDepth 20000 in
theorem gX3_isNumber_X2_at : GoodIn wsX3_isNumber (wsV RX3 46 RX2 yX2_at wsX2_at) := goodIn_app (goodIn_of _ (by decide +kernel)) ggX3_isNumber_X2_at
set_option maxRecDepth 20000 in
theorem ggX3_isNumber_X3_isDigit : GoodIn wsX3_isNumber wsX3_isDigit := goodIn_r _ [15] (by decide +kernel) (by decide +kernel)
set_option maxRecDepth 20000 in
theorem gX3_isNumber_X3_isDigit : GoodIn wsX3_isNumber (va_wsS RX3 104 yX3_isDigit wsX3_isDigit) := goodIn_app (goodIn_of _ (by decide +kernel)) ggX3_isNumber_X3_isDigit
theorem dX3_isNumber_0 : decode cX3_isNumber 0 = .ok (.aload_n 0, 1) := by decide +kernel
theorem dX3_isNumber_1 : decode cX3_isNumber 1 = .ok (.getfield 31, 3) := by decide +kernel
theorem dX3_isNumber_4 : decode cX3_isNumber 4 = .ok (.iload_n 1, 1) := by decide +kernel
theorem dX3_isNumber_5 : decode cX3_isNumber 5 = .ok (.invokevirtual 46, 3) := by decide +kernel
theorem dX3_isNumber_8 : decode cX3_isNumber 8 = .ok (.bipush 45, 2) := by decide +kernel
theorem dX3_isNumber_10 : decode cX3_isNumber 10 = .ok (.if_icmp .ne 7, 3) := by decide +kernel
theorem dX3_isNumber_13 : decode cX3_isNumber 13 = .ok (.iconst 1, 1) := by decide +kernel
theorem dX3_isNumber_14 : decode cX3_isNumber 14 = .ok (.goto 4, 3) := by decide +kernel
theorem dX3_isNumber_17 : decode cX3_isNumber 17 = .ok (.iconst 0, 1) := by decide +kernel
theorem dX3_isNumber_18 : decode cX3_isNumber 18 = .ok (.istore_n 3, 1) := by decide +kernel
theorem dX3_isNumber_19 : decode cX3_isNumber 19 = .ok (.iload_n 3, 1) := by decide +kernel
theorem dX3_isNumber_20 : decode cX3_isNumber 20 = .ok (.ifCond .eq 9, 3) := by decide +kernel
theorem dX3_isNumber_23 : decode cX3_isNumber 23 = .ok (.iload_n 1, 1) := by decide +kernel
theorem dX3_isNumber_24 : decode cX3_isNumber 24 = .ok (.iconst 1, 1) := by decide +kernel
theorem dX3_isNumber_25 : decode cX3_isNumber 25 = .ok (.iadd, 1) := by decide +kernel
theorem dX3_isNumber_26 : decode cX3_isNumber 26 = .ok (.goto 4, 3) := by decide +kernel
theorem dX3_isNumber_29 : decode cX3_isNumber 29 = .ok (.iload_n 1, 1) := by decide +kernel
theorem dX3_isNumber_30 : decode cX3_isNumber 30 = .ok (.istore 4, 2) := by decide +kernel
theorem dX3_isNumber_32 : decode cX3_isNumber 32 = .ok (.iload_n 2, 1) := by decide +kernel
theorem dX3_isNumber_33 : decode cX3_isNumber 33 = .ok (.iload 4, 2) := by decide +kernel
theorem dX3_isNumber_35 : decode cX3_isNumber 35 = .ok (.if_icmp .le 12, 3) := by decide +kernel
theorem dX3_isNumber_38 : decode cX3_isNumber 38 = .ok (.iload_n 2, 1) := by decide +kernel
theorem dX3_isNumber_39 : decode cX3_isNumber 39 = .ok (.iload 4, 2) := by decide +kernel
theorem dX3_isNumber_41 : decode cX3_isNumber 41 = .ok (.isub, 1) := by decide +kernel
theorem dX3_isNumber_42 : decode cX3_isNumber 42 = .ok (.bipush 10, 2) := by decide +kernel
theorem dX3_isNumber_44 : decode cX3_isNumber 44 = .ok (.if_icmp .le 5, 3) := by decide +kernel
theorem dX3_isNumber_47 : decode cX3_isNumber 47 = .ok (.iconst 0, 1) := by decide +kernel
theorem dX3_isNumber_48 : decode cX3_isNumber 48 = .ok (.ireturn, 1) := by decide +kernel
theorem dX3_isNumber_49 : decode cX3_isNumber 49 = .ok (.lconst 0, 1) := by decide +kernel
theorem dX3_isNumber_50 : decode cX3_isNumber 50 = .ok (.lstore 5, 2) := by decide +kernel
theorem dX3_isNumber_52 : decode cX3_isNumber 52 = .ok (.iload 4, 2) := by decide +kernel
theorem dX3_isNumber_54 : decode cX3_isNumber 54 = .ok (.istore 7, 2) := by decide +kernel
theorem dX3_isNumber_56 : decode cX3_isNumber 56 = .ok (.iload 7, 2) := by decide +kernel
theorem dX3_isNumber_58 : decode cX3_isNumber 58 = .ok (.iload_n 2, 1) := by decide +kernel
theorem dX3_isNumber_59 : decode cX3_isNumber 59 = .ok (.if_icmp .ge 45, 3) := by decide +kernel
theorem dX3_isNumber_62 : decode cX3_isNumber 62 = .ok (.aload_n 0, 1) := by decide +kernel
theorem dX3_isNumber_63 : decode cX3_isNumber 63 = .ok (.getfield 31, 3) := by decide +kernel
theorem dX3_isNumber_66 : decode cX3_isNumber 66 = .ok (.iload 7, 2) := by decide +kernel
theorem dX3_isNumber_68 : decode cX3_isNumber 68 = .ok (.invokevirtual 46, 3) := by decide +kernel
theorem dX3_isNumber_71 : decode cX3_isNumber 71 = .ok (.istore 8, 2) := by decide +kernel
theorem dX3_isNumber_73 : decode cX3_isNumber 73 = .ok (.iload 8, 2) := by decide +kernel
theorem dX3_isNumber_75 : decode cX3_isNumber 75 = .ok (.invokestatic 104, 3) := by decide +kernel
theorem dX3_isNumber_78 : decode cX3_isNumber 78 = .ok (.ifCond .ne 5, 3) := by decide +kernel
theorem dX3_isNumber_81 : decode cX3_isNumber 81 = .ok (.iconst 0, 1) := by decide +kernel
theorem dX3_isNumber_82 : decode cX3_isNumber 82 = .ok (.ireturn, 1) := by decide +kernel
theorem dX3_isNumber_83 : decode cX3_isNumber 83 = .ok (.ldc2_w 107, 3) := by decide +kernel
theorem dX3_isNumber_86 : decode cX3_isNumber 86 = .ok (.lload 5, 2) := by decide +kernel
theorem dX3_isNumber_88 : decode cX3_isNumber 88 = .ok (.lmul, 1) := by decide +kernel
theorem dX3_isNumber_89 : decode cX3_isNumber 89 = .ok (.iload 8, 2) := by decide +kernel
theorem dX3_isNumber_91 : decode cX3_isNumber 91 = .ok (.bipush 48, 2) := by decide +kernel
theorem dX3_isNumber_93 : decode cX3_isNumber 93 = .ok (.isub, 1) := by decide +kernel
theorem dX3_isNumber_94 : decode cX3_isNumber 94 = .ok (.i2l, 1) := by decide +kernel
theorem dX3_isNumber_95 : decode cX3_isNumber 95 = .ok (.ladd, 1) := by decide +kernel
theorem dX3_isNumber_96 : decode cX3_isNumber 96 = .ok (.lstore 5, 2) := by decide +kernel
theorem dX3_isNumber_98 : decode cX3_isNumber 98 = .ok (.iinc 7 1, 3) := by decide +kernel
theorem dX3_isNumber_101 : decode cX3_isNumber 101 = .ok (.goto (-45), 3) := by decide +kernel
theorem dX3_isNumber_104 : decode cX3_isNumber 104 = .ok (.lload 5, 2) := by decide +kernel
theorem dX3_isNumber_106 : decode cX3_isNumber 106 = .ok (.iload_n 3, 1) := by decide +kernel
theorem dX3_isNumber_107 : decode cX3_isNumber 107 = .ok (.ifCond .eq 9, 3) := by decide +kernel
theorem dX3_isNumber_110 : decode cX3_isNumber 110 = .ok (.ldc2_w 109, 3) := by decide +kernel
theorem dX3_isNumber_113 : decode cX3_isNumber 113 = .ok (.goto 6, 3) := by decide +kernel
theorem dX3_isNumber_116 : decode cX3_isNumber 116 = .ok (.ldc2_w 111, 3) := by decide +kernel
theorem dX3_isNumber_119 : decode cX3_isNumber 119 = .ok (.lcmp, 1) := by decide +kernel
theorem dX3_isNumber_120 : decode cX3_isNumber 120 = .ok (.ifCond .gt 7, 3) := by decide +kernel
theorem dX3_isNumber_123 : decode cX3_isNumber 123 = .ok (.iconst 1, 1) := by decide +kernel
theorem dX3_isNumber_124 : decode cX3_isNumber 124 = .ok (.goto 4, 3) := by decide +kernel
theorem dX3_isNumber_127 : decode cX3_isNumber 127 = .ok (.iconst 0, 1) := by decide +kernel
theorem dX3_isNumber_128 : decode cX3_isNumber 128 = .ok (.ireturn, 1) := by decide +kernel
set_option maxRecDepth 20000 in
theorem ggX3_isRowType_X2_at : GoodIn wsX3_isRowType wsX2_at := goodIn_r _ [6, 7, 8, 76, 77, 78, 79] (by decide +kernel) (by decide +kernel)
set_option maxRecDepth 20000 in
theorem gX3_isRowType_X2_at : GoodIn wsX3_isRowType (wsV RX3 46 RX2 yX2_at wsX2_at) := goodIn_app (goodIn_of _ (by decide +kernel)) ggX3_isRowType_X2_at
set_option maxRecDepth 20000 in
theorem ggX3_isRowType_X3_isName : GoodIn wsX3_isRowType wsX3_isName := goodIn_r _ [13, 1, 2, 3, 4, 5, 6, 7, 8, 14, 15, 12, 16, 70, 71, 72, 73, 74, 75, 76, 77, 78, 79] (by decide +kernel) (by decide +kernel)
set_option maxRecDepth 20000 in
theorem gX3_isRowType_X3_isName : GoodIn wsX3_isRowType (wsV RX3 69 RX3 yX3_isName wsX3_isName) := goodIn_app (goodIn_of _ (by decide +kernel)) ggX3_isRowType_X3_isName
set_option maxRecDepth 20000 in
theorem ggX3_isRowType_X3_isPart : GoodIn wsX3_isRowType wsX3_isPart := goodIn_r _ [20, 1, 21, 22, 23, 24, 25, 26, 27, 28, 29, 30, 31, 32, 33, 34, 35, 36, 37, 38, 39, 40, 41, 42, 43, 44, 45, 46, 47, 48, 49, 50, 51, 52, 53, 54, 55, 56, 57, 58, 59, 60, 61, 62, 63, 64, 65, 66, 67, 68, 69, 2, 3, 4, 5, 6, 7, 8, 70, 71, 72, 73, 74, 75, 76, 77, 78, 79] (by decide +kernel) (by decide +kernel)
set_option maxRecDepth 20000 in
theorem gX3_isRowType_X3_isPart : GoodIn wsX3_isRowType (wsV RX3 115 RX3 yX3_isPart wsX3_isPart) := goodIn_app (goodIn_of _ (by decide +kernel)) ggX3_isRowType_X3_isPart
theorem dX3_isRowType_0 : decode cX3_isRowType 0 = .ok (.iload_n 2, 1) := by decide +kernel
theorem dX3_isRowType_1 : decode cX3_isRowType 1 = .ok (.iconst 2, 1) := by decide +kernel
theorem dX3_isRowType_2 : decode cX3_isRowType 2 = .ok (.isub, 1) := by decide +kernel
theorem dX3_isRowType_3 : decode cX3_isRowType 3 = .ok (.istore_n 3, 1) := by decide +kernel
theorem dX3_isRowType_4 : decode cX3_isRowType 4 = .ok (.iload_n 3, 1) := by decide +kernel
theorem dX3_isRowType_5 : decode cX3_isRowType 5 = .ok (.iload_n 1, 1) := by decide +kernel
theorem dX3_isRowType_6 : decode cX3_isRowType 6 = .ok (.if_icmp .le 31, 3) := by decide +kernel
theorem dX3_isRowType_9 : decode cX3_isRowType 9 = .ok (.aload_n 0, 1) := by decide +kernel
theorem dX3_isRowType_10 : decode cX3_isRowType 10 = .ok (.getfield 31, 3) := by decide +kernel
theorem dX3_isRowType_13 : decode cX3_isRowType 13 = .ok (.iload_n 3, 1) := by decide +kernel
theorem dX3_isRowType_14 : decode cX3_isRowType 14 = .ok (.invokevirtual 46, 3) := by decide +kernel
theorem dX3_isRowType_17 : decode cX3_isRowType 17 = .ok (.bipush 91, 2) := by decide +kernel
theorem dX3_isRowType_19 : decode cX3_isRowType 19 = .ok (.if_icmp .ne 18, 3) := by decide +kernel
theorem dX3_isRowType_22 : decode cX3_isRowType 22 = .ok (.aload_n 0, 1) := by decide +kernel
theorem dX3_isRowType_23 : decode cX3_isRowType 23 = .ok (.getfield 31, 3) := by decide +kernel
theorem dX3_isRowType_26 : decode cX3_isRowType 26 = .ok (.iload_n 3, 1) := by decide +kernel
theorem dX3_isRowType_27 : decode cX3_isRowType 27 = .ok (.iconst 1, 1) := by decide +kernel
theorem dX3_isRowType_28 : decode cX3_isRowType 28 = .ok (.iadd, 1) := by decide +kernel
theorem dX3_isRowType_29 : decode cX3_isRowType 29 = .ok (.invokevirtual 46, 3) := by decide +kernel
theorem dX3_isRowType_32 : decode cX3_isRowType 32 = .ok (.bipush 93, 2) := by decide +kernel
theorem dX3_isRowType_34 : decode cX3_isRowType 34 = .ok (.if_icmp .eq 5, 3) := by decide +kernel
theorem dX3_isRowType_37 : decode cX3_isRowType 37 = .ok (.iconst 0, 1) := by decide +kernel
theorem dX3_isRowType_38 : decode cX3_isRowType 38 = .ok (.ireturn, 1) := by decide +kernel
theorem dX3_isRowType_39 : decode cX3_isRowType 39 = .ok (.aload_n 0, 1) := by decide +kernel
theorem dX3_isRowType_40 : decode cX3_isRowType 40 = .ok (.iload_n 1, 1) := by decide +kernel
theorem dX3_isRowType_41 : decode cX3_isRowType 41 = .ok (.iload_n 3, 1) := by decide +kernel
theorem dX3_isRowType_42 : decode cX3_isRowType 42 = .ok (.bipush 65, 2) := by decide +kernel
theorem dX3_isRowType_44 : decode cX3_isRowType 44 = .ok (.bipush 90, 2) := by decide +kernel
theorem dX3_isRowType_46 : decode cX3_isRowType 46 = .ok (.invokevirtual 69, 3) := by decide +kernel
theorem dX3_isRowType_49 : decode cX3_isRowType 49 = .ok (.ifCond .ne 16, 3) := by decide +kernel
theorem dX3_isRowType_52 : decode cX3_isRowType 52 = .ok (.aload_n 0, 1) := by decide +kernel
theorem dX3_isRowType_53 : decode cX3_isRowType 53 = .ok (.ldc 113, 2) := by decide +kernel
theorem dX3_isRowType_55 : decode cX3_isRowType 55 = .ok (.iconst 0, 1) := by decide +kernel
theorem dX3_isRowType_56 : decode cX3_isRowType 56 = .ok (.iconst 3, 1) := by decide +kernel
theorem dX3_isRowType_57 : decode cX3_isRowType 57 = .ok (.iload_n 1, 1) := by decide +kernel
theorem dX3_isRowType_58 : decode cX3_isRowType 58 = .ok (.iload_n 3, 1) := by decide +kernel
theorem dX3_isRowType_59 : decode cX3_isRowType 59 = .ok (.invokevirtual 115, 3) := by decide +kernel
theorem dX3_isRowType_62 : decode cX3_isRowType 62 = .ok (.ifCond .eq 7, 3) := by decide +kernel
theorem dX3_isRowType_65 : decode cX3_isRowType 65 = .ok (.iconst 1, 1) := by decide +kernel
theorem dX3_isRowType_66 : decode cX3_isRowType 66 = .ok (.goto 4, 3) := by decide +kernel
theorem dX3_isRowType_69 : decode cX3_isRowType 69 = .ok (.iconst 0, 1) := by decide +kernel
theorem dX3_isRowType_70 : decode cX3_isRowType 70 = .ok (.ireturn, 1) := by decide +kernel
set_option maxRecDepth 20000 in
theorem ggX3_isReference_X2_at : GoodIn wsX3_isReference wsX2_at := goodIn_r _ [6, 7, 8, 23, 24, 25, 26] (by decide +kernel) (by decide +kernel)
set_option maxRecDepth 20000 in
theorem gX3_isReference_X2_at : GoodIn wsX3_isReference (wsV RX3 46 RX2 yX2_at wsX2_at) := goodIn_app (goodIn_of _ (by decide +kernel)) ggX3_isReference_X2_at
set_option maxRecDepth 20000 in
theorem ggX3_isReference_X3_isName : GoodIn wsX3_isReference wsX3_isName := goodIn_r _ [13, 1, 2, 3, 4, 5, 6, 7, 8, 14, 15, 12, 16, 17, 18, 19, 20, 21, 22, 23, 24, 25, 26] (by decide +kernel) (by decide +kernel)
set_option maxRecDepth 20000 in
theorem gX3_isReference_X3_isName : GoodIn wsX3_isReference (wsV RX3 69 RX3 yX3_isName wsX3_isName) := goodIn_app (goodIn_of _ (by decide +kernel)) ggX3_isReference_X3_isName
theorem dX3_isReference_0 : decode cX3_isReference 0 = .ok (.iload_n 1, 1) := by decide +kernel
theorem dX3_isReference_1 : decode cX3_isReference 1 = .ok (.istore_n 3, 1) := by decide +kernel
theorem dX3_isReference_2 : decode cX3_isReference 2 = .ok (.iload_n 3, 1) := by decide +kernel
theorem dX3_isReference_3 : decode cX3_isReference 3 = .ok (.iload_n 2, 1) := by decide +kernel
theorem dX3_isReference_4 : decode cX3_isReference 4 = .ok (.if_icmp .ge 56, 3) := by decide +kernel
theorem dX3_isReference_7 : decode cX3_isReference 7 = .ok (.aload_n 0, 1) := by decide +kernel
theorem dX3_isReference_8 : decode cX3_isReference 8 = .ok (.getfield 31, 3) := by decide +kernel
theorem dX3_isReference_11 : decode cX3_isReference 11 = .ok (.iload_n 3, 1) := by decide +kernel
theorem dX3_isReference_12 : decode cX3_isReference 12 = .ok (.invokevirtual 46, 3) := by decide +kernel
theorem dX3_isReference_15 : decode cX3_isReference 15 = .ok (.bipush 46, 2) := by decide +kernel
theorem dX3_isReference_17 : decode cX3_isReference 17 = .ok (.if_icmp .ne 37, 3) := by decide +kernel
theorem dX3_isReference_20 : decode cX3_isReference 20 = .ok (.aload_n 0, 1) := by decide +kernel
theorem dX3_isReference_21 : decode cX3_isReference 21 = .ok (.iload_n 1, 1) := by decide +kernel
theorem dX3_isReference_22 : decode cX3_isReference 22 = .ok (.iload_n 3, 1) := by decide +kernel
theorem dX3_isReference_23 : decode cX3_isReference 23 = .ok (.bipush 65, 2) := by decide +kernel
theorem dX3_isReference_25 : decode cX3_isReference 25 = .ok (.bipush 90, 2) := by decide +kernel
theorem dX3_isReference_27 : decode cX3_isReference 27 = .ok (.invokevirtual 69, 3) := by decide +kernel
theorem dX3_isReference_30 : decode cX3_isReference 30 = .ok (.ifCond .eq 22, 3) := by decide +kernel
theorem dX3_isReference_33 : decode cX3_isReference 33 = .ok (.aload_n 0, 1) := by decide +kernel
theorem dX3_isReference_34 : decode cX3_isReference 34 = .ok (.iload_n 3, 1) := by decide +kernel
theorem dX3_isReference_35 : decode cX3_isReference 35 = .ok (.iconst 1, 1) := by decide +kernel
theorem dX3_isReference_36 : decode cX3_isReference 36 = .ok (.iadd, 1) := by decide +kernel
theorem dX3_isReference_37 : decode cX3_isReference 37 = .ok (.iload_n 2, 1) := by decide +kernel
theorem dX3_isReference_38 : decode cX3_isReference 38 = .ok (.bipush 97, 2) := by decide +kernel
theorem dX3_isReference_40 : decode cX3_isReference 40 = .ok (.bipush 122, 2) := by decide +kernel
theorem dX3_isReference_42 : decode cX3_isReference 42 = .ok (.invokevirtual 69, 3) := by decide +kernel
theorem dX3_isReference_45 : decode cX3_isReference 45 = .ok (.ifCond .eq 7, 3) := by decide +kernel
theorem dX3_isReference_48 : decode cX3_isReference 48 = .ok (.iconst 1, 1) := by decide +kernel
theorem dX3_isReference_49 : decode cX3_isReference 49 = .ok (.goto 4, 3) := by decide +kernel
theorem dX3_isReference_52 : decode cX3_isReference 52 = .ok (.iconst 0, 1) := by decide +kernel
theorem dX3_isReference_53 : decode cX3_isReference 53 = .ok (.ireturn, 1) := by decide +kernel
theorem dX3_isReference_54 : decode cX3_isReference 54 = .ok (.iinc 3 1, 3) := by decide +kernel
theorem dX3_isReference_57 : decode cX3_isReference 57 = .ok (.goto (-55), 3) := by decide +kernel
theorem dX3_isReference_60 : decode cX3_isReference 60 = .ok (.iconst 0, 1) := by decide +kernel
theorem dX3_isReference_61 : decode cX3_isReference 61 = .ok (.ireturn, 1) := by decide +kernel
set_option maxRecDepth 20000 in
theorem ggX3_placeIn_J0_length_8abf5 : GoodIn wsX3_placeIn wsJ0_length_8abf5 := goodIn_r _ [5, 6, 7, 8, 9, 4, 10, 11, 12] (by decide +kernel) (by decide +kernel)
set_option maxRecDepth 20000 in
theorem gX3_placeIn_J0_length_8abf5 : GoodIn wsX3_placeIn (wsV RX3 119 RJ0 yJ0_length_8abf5 wsJ0_length_8abf5) := goodIn_app (goodIn_of _ (by decide +kernel)) ggX3_placeIn_J0_length_8abf5
set_option maxRecDepth 20000 in
theorem ggX3_placeIn_J0_charAt_5068e : GoodIn wsX3_placeIn wsJ0_charAt_5068e := goodIn_r _ [16, 6, 17, 18, 19, 4, 20, 11, 12, 21, 22, 23, 24, 25, 26, 27, 28, 29, 30, 31, 32, 33, 34, 35, 36, 37, 38, 39, 40, 41, 42, 43, 44, 45, 46, 47, 48, 49] (by decide +kernel) (by decide +kernel)
set_option maxRecDepth 20000 in
theorem gX3_placeIn_J0_charAt_5068e : GoodIn wsX3_placeIn (wsV RX3 124 RJ0 yJ0_charAt_5068e wsJ0_charAt_5068e) := goodIn_app (goodIn_of _ (by decide +kernel)) ggX3_placeIn_J0_charAt_5068e
set_option maxRecDepth 20000 in
theorem ggX3_placeIn_X3_isPart : GoodIn wsX3_placeIn wsX3_isPart := goodIn_r _ [54, 55, 1, 2, 3, 4, 5, 6, 7, 8, 9, 10, 11, 12, 13, 14, 15, 16, 17, 18, 19, 20, 21, 22, 23, 24, 25, 26, 27, 28, 29, 30, 31, 32, 33, 34, 35, 36, 37, 38, 39, 40, 41, 42, 43, 44, 45, 46, 47, 48, 49, 56, 57, 58, 59, 60, 61, 62, 63, 64, 65, 66, 67, 68, 69, 70, 71, 72] (by decide +kernel) (by decide +kernel)
set_option maxRecDepth 20000 in
theorem gX3_placeIn_X3_isPart : GoodIn wsX3_placeIn (wsV RX3 115 RX3 yX3_isPart wsX3_isPart) := goodIn_app (goodIn_of _ (by decide +kernel)) ggX3_placeIn_X3_isPart
theorem dX3_placeIn_0 : decode cX3_placeIn 0 = .ok (.iconst 0, 1) := by decide +kernel
theorem dX3_placeIn_1 : decode cX3_placeIn 1 = .ok (.istore 4, 2) := by decide +kernel
theorem dX3_placeIn_3 : decode cX3_placeIn 3 = .ok (.iconst 0, 1) := by decide +kernel
theorem dX3_placeIn_4 : decode cX3_placeIn 4 = .ok (.istore 5, 2) := by decide +kernel
theorem dX3_placeIn_6 : decode cX3_placeIn 6 = .ok (.iconst 0, 1) := by decide +kernel
theorem dX3_placeIn_7 : decode cX3_placeIn 7 = .ok (.istore 6, 2) := by decide +kernel
theorem dX3_placeIn_9 : decode cX3_placeIn 9 = .ok (.iload 6, 2) := by decide +kernel
theorem dX3_placeIn_11 : decode cX3_placeIn 11 = .ok (.aload_n 1, 1) := by decide +kernel
theorem dX3_placeIn_12 : decode cX3_placeIn 12 = .ok (.invokevirtual 119, 3) := by decide +kernel
theorem dX3_placeIn_15 : decode cX3_placeIn 15 = .ok (.if_icmp .ge 46, 3) := by decide +kernel
theorem dX3_placeIn_18 : decode cX3_placeIn 18 = .ok (.aload_n 1, 1) := by decide +kernel
theorem dX3_placeIn_19 : decode cX3_placeIn 19 = .ok (.iload 6, 2) := by decide +kernel
theorem dX3_placeIn_21 : decode cX3_placeIn 21 = .ok (.invokevirtual 124, 3) := by decide +kernel
theorem dX3_placeIn_24 : decode cX3_placeIn 24 = .ok (.bipush 32, 2) := by decide +kernel
theorem dX3_placeIn_26 : decode cX3_placeIn 26 = .ok (.if_icmp .ne 29, 3) := by decide +kernel
theorem dX3_placeIn_29 : decode cX3_placeIn 29 = .ok (.aload_n 0, 1) := by decide +kernel
theorem dX3_placeIn_30 : decode cX3_placeIn 30 = .ok (.aload_n 1, 1) := by decide +kernel
theorem dX3_placeIn_31 : decode cX3_placeIn 31 = .ok (.iload 5, 2) := by decide +kernel
theorem dX3_placeIn_33 : decode cX3_placeIn 33 = .ok (.iload 6, 2) := by decide +kernel
theorem dX3_placeIn_35 : decode cX3_placeIn 35 = .ok (.iload_n 2, 1) := by decide +kernel
theorem dX3_placeIn_36 : decode cX3_placeIn 36 = .ok (.iload_n 3, 1) := by decide +kernel
theorem dX3_placeIn_37 : decode cX3_placeIn 37 = .ok (.invokevirtual 115, 3) := by decide +kernel
theorem dX3_placeIn_40 : decode cX3_placeIn 40 = .ok (.ifCond .eq 6, 3) := by decide +kernel
theorem dX3_placeIn_43 : decode cX3_placeIn 43 = .ok (.iload 4, 2) := by decide +kernel
theorem dX3_placeIn_45 : decode cX3_placeIn 45 = .ok (.ireturn, 1) := by decide +kernel
theorem dX3_placeIn_46 : decode cX3_placeIn 46 = .ok (.iinc 4 1, 3) := by decide +kernel
theorem dX3_placeIn_49 : decode cX3_placeIn 49 = .ok (.iload 6, 2) := by decide +kernel
theorem dX3_placeIn_51 : decode cX3_placeIn 51 = .ok (.iconst 1, 1) := by decide +kernel
theorem dX3_placeIn_52 : decode cX3_placeIn 52 = .ok (.iadd, 1) := by decide +kernel
theorem dX3_placeIn_53 : decode cX3_placeIn 53 = .ok (.istore 5, 2) := by decide +kernel
theorem dX3_placeIn_55 : decode cX3_placeIn 55 = .ok (.iinc 6 1, 3) := by decide +kernel
theorem dX3_placeIn_58 : decode cX3_placeIn 58 = .ok (.goto (-49), 3) := by decide +kernel
theorem dX3_placeIn_61 : decode cX3_placeIn 61 = .ok (.iconst (-1), 1) := by decide +kernel
theorem dX3_placeIn_62 : decode cX3_placeIn 62 = .ok (.ireturn, 1) := by decide +kernel
set_option maxRecDepth 20000 in
theorem ggX3_isPart_J0_length_8abf5 : GoodIn wsX3_isPart wsJ0_length_8abf5 := goodIn_r _ [6, 7, 8, 9, 10, 5, 11, 12, 13] (by decide +kernel) (by decide +kernel)
set_option maxRecDepth 20000 in
theorem gX3_isPart_J0_length_8abf5 : GoodIn wsX3_isPart (wsV RX3 119 RJ0 yJ0_length_8abf5 wsJ0_length_8abf5) := goodIn_app (goodIn_of _ (by decide +kernel)) ggX3_isPart_J0_length_8abf5
set_option maxRecDepth 20000 in
theorem ggX3_isPart_J0_charAt_5068e : GoodIn wsX3_isPart wsJ0_charAt_5068e := goodIn_r _ [17, 7, 18, 19, 20, 5, 21, 12, 13, 22, 23, 24, 25, 26, 27, 28, 29, 30, 31, 32, 33, 34, 35, 36, 37, 38, 39, 40, 41, 42, 43, 44, 45, 46, 47, 48, 49, 50] (by decide +kernel) (by decide +kernel)
set_option maxRecDepth 20000 in
theorem gX3_isPart_J0_charAt_5068e : GoodIn wsX3_isPart (wsV RX3 124 RJ0 yJ0_charAt_5068e wsJ0_charAt_5068e) := goodIn_app (goodIn_of _ (by decide +kernel)) ggX3_isPart_J0_charAt_5068e
set_option maxRecDepth 20000 in
theorem ggX3_isPart_X2_at : GoodIn wsX3_isPart wsX2_at := goodIn_r _ [55, 56, 57, 64, 65, 66, 67] (by decide +kernel) (by decide +kernel)
set_option maxRecDepth 20000 in
theorem gX3_isPart_X2_at : GoodIn wsX3_isPart (wsV RX3 46 RX2 yX2_at wsX2_at) := goodIn_app (goodIn_of _ (by decide +kernel)) ggX3_isPart_X2_at
theorem dX3_isPart_0 : decode cX3_isPart 0 = .ok (.iload_n 2, 1) := by decide +kernel
theorem dX3_isPart_1 : decode cX3_isPart 1 = .ok (.ifCond .lt 22, 3) := by decide +kernel
theorem dX3_isPart_4 : decode cX3_isPart 4 = .ok (.iload_n 3, 1) := by decide +kernel
theorem dX3_isPart_5 : decode cX3_isPart 5 = .ok (.aload_n 1, 1) := by decide +kernel
theorem dX3_isPart_6 : decode cX3_isPart 6 = .ok (.invokevirtual 119, 3) := by decide +kernel
theorem dX3_isPart_9 : decode cX3_isPart 9 = .ok (.if_icmp .gt 14, 3) := by decide +kernel
theorem dX3_isPart_12 : decode cX3_isPart 12 = .ok (.iload_n 3, 1) := by decide +kernel
theorem dX3_isPart_13 : decode cX3_isPart 13 = .ok (.iload_n 2, 1) := by decide +kernel
theorem dX3_isPart_14 : decode cX3_isPart 14 = .ok (.isub, 1) := by decide +kernel
theorem dX3_isPart_15 : decode cX3_isPart 15 = .ok (.iload 5, 2) := by decide +kernel
theorem dX3_isPart_17 : decode cX3_isPart 17 = .ok (.iload 4, 2) := by decide +kernel
theorem dX3_isPart_19 : decode cX3_isPart 19 = .ok (.isub, 1) := by decide +kernel
theorem dX3_isPart_20 : decode cX3_isPart 20 = .ok (.if_icmp .eq 5, 3) := by decide +kernel
theorem dX3_isPart_23 : decode cX3_isPart 23 = .ok (.iconst 0, 1) := by decide +kernel
theorem dX3_isPart_24 : decode cX3_isPart 24 = .ok (.ireturn, 1) := by decide +kernel
theorem dX3_isPart_25 : decode cX3_isPart 25 = .ok (.iload_n 2, 1) := by decide +kernel
theorem dX3_isPart_26 : decode cX3_isPart 26 = .ok (.istore 6, 2) := by decide +kernel
theorem dX3_isPart_28 : decode cX3_isPart 28 = .ok (.iload 6, 2) := by decide +kernel
theorem dX3_isPart_30 : decode cX3_isPart 30 = .ok (.iload_n 3, 1) := by decide +kernel
theorem dX3_isPart_31 : decode cX3_isPart 31 = .ok (.if_icmp .ge 34, 3) := by decide +kernel
theorem dX3_isPart_34 : decode cX3_isPart 34 = .ok (.aload_n 1, 1) := by decide +kernel
theorem dX3_isPart_35 : decode cX3_isPart 35 = .ok (.iload 6, 2) := by decide +kernel
theorem dX3_isPart_37 : decode cX3_isPart 37 = .ok (.invokevirtual 124, 3) := by decide +kernel
theorem dX3_isPart_40 : decode cX3_isPart 40 = .ok (.aload_n 0, 1) := by decide +kernel
theorem dX3_isPart_41 : decode cX3_isPart 41 = .ok (.getfield 31, 3) := by decide +kernel
theorem dX3_isPart_44 : decode cX3_isPart 44 = .ok (.iload 4, 2) := by decide +kernel
theorem dX3_isPart_46 : decode cX3_isPart 46 = .ok (.iload 6, 2) := by decide +kernel
theorem dX3_isPart_48 : decode cX3_isPart 48 = .ok (.iload_n 2, 1) := by decide +kernel
theorem dX3_isPart_49 : decode cX3_isPart 49 = .ok (.isub, 1) := by decide +kernel
theorem dX3_isPart_50 : decode cX3_isPart 50 = .ok (.iadd, 1) := by decide +kernel
theorem dX3_isPart_51 : decode cX3_isPart 51 = .ok (.invokevirtual 46, 3) := by decide +kernel
theorem dX3_isPart_54 : decode cX3_isPart 54 = .ok (.if_icmp .eq 5, 3) := by decide +kernel
theorem dX3_isPart_57 : decode cX3_isPart 57 = .ok (.iconst 0, 1) := by decide +kernel
theorem dX3_isPart_58 : decode cX3_isPart 58 = .ok (.ireturn, 1) := by decide +kernel
theorem dX3_isPart_59 : decode cX3_isPart 59 = .ok (.iinc 6 1, 3) := by decide +kernel
theorem dX3_isPart_62 : decode cX3_isPart 62 = .ok (.goto (-34), 3) := by decide +kernel
theorem dX3_isPart_65 : decode cX3_isPart 65 = .ok (.iconst 1, 1) := by decide +kernel
theorem dX3_isPart_66 : decode cX3_isPart 66 = .ok (.ireturn, 1) := by decide +kernel
set_option maxRecDepth 20000 in
theorem ggX4_init_X2_init : GoodIn wsX4_init wsX2_init := goodIn_r _ [20, 21, 2, 3, 22, 23, 24, 25, 26, 27, 28, 29, 30, 31, 32, 81, 82, 58, 59] (by decide +kernel) (by decide +kernel)
set_option maxRecDepth 20000 in
theorem gX4_init_X2_init_n11 : GoodIn wsX4_init (wsX2_init) := ggX4_init_X2_init
set_option maxRecDepth 20000 in
theorem ggX4_init_X3_init : GoodIn wsX4_init wsX3_init := goodIn_r _ [35, 36, 2, 3, 37, 23, 24, 38, 39, 40, 41, 42, 43, 27, 28, 29, 30, 31, 32, 81, 82, 66, 67, 68, 69, 70, 71] (by decide +kernel) (by decide +kernel)
set_option maxRecDepth 20000 in
theorem gX4_init_X3_init : GoodIn wsX4_init (wsX3_init) := ggX4_init_X3_init
set_option maxRecDepth 20000 in
theorem ggX4_init_X0_init : GoodIn wsX4_init wsX0_init := goodIn_r _ [46, 47, 2, 3, 48, 23, 24, 49, 50, 51, 52, 53, 54, 55, 56, 57, 27, 28, 29, 30, 31, 32, 81, 82, 72, 73, 74, 75, 76, 77, 78, 79, 80] (by decide +kernel) (by decide +kernel)
set_option maxRecDepth 20000 in
theorem gX4_init_X0_init : GoodIn wsX4_init (wsX0_init) := ggX4_init_X0_init
theorem dX4_init_0 : decode cX4_init 0 = .ok (.aload_n 0, 1) := by decide +kernel
theorem dX4_init_1 : decode cX4_init 1 = .ok (.invokespecial 3, 3) := by decide +kernel
theorem dX4_init_4 : decode cX4_init 4 = .ok (.aload_n 0, 1) := by decide +kernel
theorem dX4_init_5 : decode cX4_init 5 = .ok (.new 9, 3) := by decide +kernel
theorem dX4_init_8 : decode cX4_init 8 = .ok (.dup, 1) := by decide +kernel
theorem dX4_init_9 : decode cX4_init 9 = .ok (.invokespecial 11, 3) := by decide +kernel
theorem dX4_init_12 : decode cX4_init 12 = .ok (.putfield 12, 3) := by decide +kernel
theorem dX4_init_15 : decode cX4_init 15 = .ok (.aload_n 0, 1) := by decide +kernel
theorem dX4_init_16 : decode cX4_init 16 = .ok (.new 9, 3) := by decide +kernel
theorem dX4_init_19 : decode cX4_init 19 = .ok (.dup, 1) := by decide +kernel
theorem dX4_init_20 : decode cX4_init 20 = .ok (.invokespecial 11, 3) := by decide +kernel
theorem dX4_init_23 : decode cX4_init 23 = .ok (.putfield 16, 3) := by decide +kernel
theorem dX4_init_26 : decode cX4_init 26 = .ok (.aload_n 0, 1) := by decide +kernel
theorem dX4_init_27 : decode cX4_init 27 = .ok (.new 19, 3) := by decide +kernel
theorem dX4_init_30 : decode cX4_init 30 = .ok (.dup, 1) := by decide +kernel
theorem dX4_init_31 : decode cX4_init 31 = .ok (.aload_n 0, 1) := by decide +kernel
theorem dX4_init_32 : decode cX4_init 32 = .ok (.getfield 16, 3) := by decide +kernel
theorem dX4_init_35 : decode cX4_init 35 = .ok (.invokespecial 21, 3) := by decide +kernel
theorem dX4_init_38 : decode cX4_init 38 = .ok (.putfield 24, 3) := by decide +kernel
theorem dX4_init_41 : decode cX4_init 41 = .ok (.aload_n 0, 1) := by decide +kernel
theorem dX4_init_42 : decode cX4_init 42 = .ok (.new 28, 3) := by decide +kernel
theorem dX4_init_45 : decode cX4_init 45 = .ok (.dup, 1) := by decide +kernel
theorem dX4_init_46 : decode cX4_init 46 = .ok (.aload_n 0, 1) := by decide +kernel
theorem dX4_init_47 : decode cX4_init 47 = .ok (.getfield 24, 3) := by decide +kernel
theorem dX4_init_50 : decode cX4_init 50 = .ok (.invokespecial 30, 3) := by decide +kernel
theorem dX4_init_53 : decode cX4_init 53 = .ok (.putfield 33, 3) := by decide +kernel
theorem dX4_init_56 : decode cX4_init 56 = .ok (.aload_n 0, 1) := by decide +kernel
theorem dX4_init_57 : decode cX4_init 57 = .ok (.iconst 0, 1) := by decide +kernel
theorem dX4_init_58 : decode cX4_init 58 = .ok (.putfield 37, 3) := by decide +kernel
theorem dX4_init_61 : decode cX4_init 61 = .ok (.aload_n 0, 1) := by decide +kernel
theorem dX4_init_62 : decode cX4_init 62 = .ok (.iconst (-1), 1) := by decide +kernel
theorem dX4_init_63 : decode cX4_init 63 = .ok (.putfield 41, 3) := by decide +kernel
theorem dX4_init_66 : decode cX4_init 66 = .ok (.return_, 1) := by decide +kernel
set_option maxRecDepth 20000 in
theorem ggX4_feed_X2_addFour : GoodIn wsX4_feed wsX2_addFour := goodIn_r _ [8, 9, 10, 11, 12, 13, 14, 15, 16, 17, 18, 19, 20, 21, 22, 23, 24, 25, 26, 27, 28, 29, 30, 31, 32, 33, 34, 35, 36, 37, 44, 45, 46, 47] (by decide +kernel) (by decide +kernel)
set_option maxRecDepth 20000 in
theorem gX4_feed_X2_addFour : GoodIn wsX4_feed (wsV RX4 48 RX2 yX2_addFour wsX2_addFour) := goodIn_app (goodIn_of _ (by decide +kernel)) ggX4_feed_X2_addFour
theorem dX4_feed_0 : decode cX4_feed 0 = .ok (.aload_n 0, 1) := by decide +kernel
theorem dX4_feed_1 : decode cX4_feed 1 = .ok (.getfield 12, 3) := by decide +kernel
theorem dX4_feed_4 : decode cX4_feed 4 = .ok (.getfield 44, 3) := by decide +kernel
theorem dX4_feed_7 : decode cX4_feed 7 = .ok (.sipush 15980, 3) := by decide +kernel
theorem dX4_feed_10 : decode cX4_feed 10 = .ok (.if_icmp .gt 12, 3) := by decide +kernel
theorem dX4_feed_13 : decode cX4_feed 13 = .ok (.aload_n 0, 1) := by decide +kernel
theorem dX4_feed_14 : decode cX4_feed 14 = .ok (.getfield 37, 3) := by decide +kernel
theorem dX4_feed_17 : decode cX4_feed 17 = .ok (.ldc 47, 2) := by decide +kernel
theorem dX4_feed_19 : decode cX4_feed 19 = .ok (.if_icmp .le 5, 3) := by decide +kernel
theorem dX4_feed_22 : decode cX4_feed 22 = .ok (.iconst (-1), 1) := by decide +kernel
theorem dX4_feed_23 : decode cX4_feed 23 = .ok (.ireturn, 1) := by decide +kernel
theorem dX4_feed_24 : decode cX4_feed 24 = .ok (.aload_n 0, 1) := by decide +kernel
theorem dX4_feed_25 : decode cX4_feed 25 = .ok (.getfield 12, 3) := by decide +kernel
theorem dX4_feed_28 : decode cX4_feed 28 = .ok (.iload_n 1, 1) := by decide +kernel
theorem dX4_feed_29 : decode cX4_feed 29 = .ok (.invokevirtual 48, 3) := by decide +kernel
theorem dX4_feed_32 : decode cX4_feed 32 = .ok (.aload_n 0, 1) := by decide +kernel
theorem dX4_feed_33 : decode cX4_feed 33 = .ok (.getfield 12, 3) := by decide +kernel
theorem dX4_feed_36 : decode cX4_feed 36 = .ok (.iload_n 2, 1) := by decide +kernel
theorem dX4_feed_37 : decode cX4_feed 37 = .ok (.invokevirtual 48, 3) := by decide +kernel
theorem dX4_feed_40 : decode cX4_feed 40 = .ok (.aload_n 0, 1) := by decide +kernel
theorem dX4_feed_41 : decode cX4_feed 41 = .ok (.getfield 12, 3) := by decide +kernel
theorem dX4_feed_44 : decode cX4_feed 44 = .ok (.iload_n 3, 1) := by decide +kernel
theorem dX4_feed_45 : decode cX4_feed 45 = .ok (.invokevirtual 48, 3) := by decide +kernel
theorem dX4_feed_48 : decode cX4_feed 48 = .ok (.aload_n 0, 1) := by decide +kernel
theorem dX4_feed_49 : decode cX4_feed 49 = .ok (.getfield 12, 3) := by decide +kernel
theorem dX4_feed_52 : decode cX4_feed 52 = .ok (.iload 4, 2) := by decide +kernel
theorem dX4_feed_54 : decode cX4_feed 54 = .ok (.invokevirtual 48, 3) := by decide +kernel
theorem dX4_feed_57 : decode cX4_feed 57 = .ok (.aload_n 0, 1) := by decide +kernel
theorem dX4_feed_58 : decode cX4_feed 58 = .ok (.getfield 12, 3) := by decide +kernel
theorem dX4_feed_61 : decode cX4_feed 61 = .ok (.iload 5, 2) := by decide +kernel
theorem dX4_feed_63 : decode cX4_feed 63 = .ok (.invokevirtual 48, 3) := by decide +kernel
theorem dX4_feed_66 : decode cX4_feed 66 = .ok (.aload_n 0, 1) := by decide +kernel
theorem dX4_feed_67 : decode cX4_feed 67 = .ok (.dup, 1) := by decide +kernel
theorem dX4_feed_68 : decode cX4_feed 68 = .ok (.getfield 37, 3) := by decide +kernel
theorem dX4_feed_71 : decode cX4_feed 71 = .ok (.bipush 20, 2) := by decide +kernel
theorem dX4_feed_73 : decode cX4_feed 73 = .ok (.iadd, 1) := by decide +kernel
theorem dX4_feed_74 : decode cX4_feed 74 = .ok (.putfield 37, 3) := by decide +kernel
theorem dX4_feed_77 : decode cX4_feed 77 = .ok (.aload_n 0, 1) := by decide +kernel
theorem dX4_feed_78 : decode cX4_feed 78 = .ok (.getfield 12, 3) := by decide +kernel
theorem dX4_feed_81 : decode cX4_feed 81 = .ok (.getfield 44, 3) := by decide +kernel
theorem dX4_feed_84 : decode cX4_feed 84 = .ok (.ireturn, 1) := by decide +kernel
set_option maxRecDepth 20000 in
theorem ggX4_end_X2_takeOver : GoodIn wsX4_end wsX2_takeOver := goodIn_r _ [7, 8, 9, 10, 11, 12, 6, 13, 14, 15, 16, 17, 18, 19, 26, 27, 28, 29] (by decide +kernel) (by decide +kernel)
set_option maxRecDepth 20000 in
theorem gX4_end_X2_takeOver : GoodIn wsX4_end (wsV RX4 52 RX2 yX2_takeOver wsX2_takeOver) := goodIn_app (goodIn_of _ (by decide +kernel)) ggX4_end_X2_takeOver
theorem dX4_end_0 : decode cX4_end 0 = .ok (.iload_n 1, 1) := by decide +kernel
theorem dX4_end_1 : decode cX4_end 1 = .ok (.ifCond .lt 14, 3) := by decide +kernel
theorem dX4_end_4 : decode cX4_end 4 = .ok (.iload_n 1, 1) := by decide +kernel
theorem dX4_end_5 : decode cX4_end 5 = .ok (.aload_n 0, 1) := by decide +kernel
theorem dX4_end_6 : decode cX4_end 6 = .ok (.getfield 12, 3) := by decide +kernel
theorem dX4_end_9 : decode cX4_end 9 = .ok (.getfield 44, 3) := by decide +kernel
theorem dX4_end_12 : decode cX4_end 12 = .ok (.if_icmp .le 5, 3) := by decide +kernel
