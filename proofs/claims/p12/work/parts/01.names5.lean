theorem dX4_end_15 : decode cX4_end 15 = .ok (.iconst 0, 1) := by decide +kernel
theorem dX4_end_16 : decode cX4_end 16 = .ok (.ireturn, 1) := by decide +kernel
theorem dX4_end_17 : decode cX4_end 17 = .ok (.aload_n 0, 1) := by decide +kernel
theorem dX4_end_18 : decode cX4_end 18 = .ok (.getfield 16, 3) := by decide +kernel
theorem dX4_end_21 : decode cX4_end 21 = .ok (.aload_n 0, 1) := by decide +kernel
theorem dX4_end_22 : decode cX4_end 22 = .ok (.getfield 12, 3) := by decide +kernel
theorem dX4_end_25 : decode cX4_end 25 = .ok (.iload_n 1, 1) := by decide +kernel
theorem dX4_end_26 : decode cX4_end 26 = .ok (.invokevirtual 52, 3) := by decide +kernel
theorem dX4_end_29 : decode cX4_end 29 = .ok (.iconst 1, 1) := by decide +kernel
theorem dX4_end_30 : decode cX4_end 30 = .ok (.ireturn, 1) := by decide +kernel
set_option maxRecDepth 20000 in
theorem ggX4_read_X0_clear : GoodIn wsX4_read wsX0_clear := goodIn_r _ [9, 10, 11, 12, 13, 14, 15, 16, 17, 18, 19, 20, 21, 22, 23, 249, 250, 251, 252, 253, 254, 255, 256, 257, 258, 259] (by decide +kernel) (by decide +kernel)
set_option maxRecDepth 20000 in
theorem gX4_read_X0_clear : GoodIn wsX4_read (wsV RX4 56 RX0 yX0_clear wsX0_clear) := goodIn_app (goodIn_of _ (by decide +kernel)) ggX4_read_X0_clear
set_option maxRecDepth 20000 in
theorem ggX4_read_X3_cut : GoodIn wsX4_read wsX3_cut := goodIn_r _ [28, 29, 30, 31, 32, 33, 27, 34, 35, 36, 37, 38, 39, 19, 20, 21, 22, 23, 40, 41, 42, 43, 44, 45, 46, 47, 48, 49, 50, 51, 52, 53, 54, 55, 56, 57, 58, 59, 60, 61, 62, 63, 64, 65, 66, 67, 68, 69, 70, 71, 72, 73, 74, 75, 76, 77, 78, 79, 80, 81, 82, 83, 84, 85, 86, 87, 88, 89, 90, 91, 92, 93, 94, 95, 96, 97, 98, 99, 100, 101, 102, 103, 104, 105, 106, 107, 108, 109, 110, 111, 112, 113, 114, 115, 116, 117, 118, 119, 120, 121, 122, 123, 124, 125, 126, 127, 128, 129, 130, 131, 132, 133, 134, 135, 136, 137, 138, 139, 140, 141, 142, 143, 144, 145, 146, 147, 148, 149, 150, 151, 152, 153, 154, 155, 156, 157, 158, 159, 160, 161, 162, 163, 164, 165, 166, 167, 168, 169, 170, 171, 172, 173, 174, 175, 176, 177, 178, 260, 261, 262, 263, 264, 265, 266, 267, 258, 259] (by decide +kernel) (by decide +kernel)
set_option maxRecDepth 20000 in
theorem gX4_read_X3_cut : GoodIn wsX4_read (wsV RX4 59 RX3 yX3_cut wsX3_cut) := goodIn_app (goodIn_of _ (by decide +kernel)) ggX4_read_X3_cut
set_option maxRecDepth 20000 in
theorem ggX4_read_X3_count : GoodIn wsX4_read wsX3_count := goodIn_r _ [182, 35, 260, 261, 262, 263, 264, 265, 258, 259] (by decide +kernel) (by decide +kernel)
set_option maxRecDepth 20000 in
theorem gX4_read_X3_count : GoodIn wsX4_read (wsV RX4 63 RX3 yX3_count wsX3_count) := goodIn_app (goodIn_of _ (by decide +kernel)) ggX4_read_X3_count
set_option maxRecDepth 20000 in
theorem ggX4_read_X0_parse : GoodIn wsX4_read wsX0_parse := goodIn_r _ [186, 187, 17, 16, 188, 180, 181, 27, 182, 35, 189, 190, 191, 8, 192, 193, 194, 195, 196, 10, 197, 198, 199, 200, 201, 202, 203, 21, 204, 23, 130, 205, 127, 128, 129, 131, 132, 133, 134, 135, 136, 137, 138, 139, 140, 141, 142, 143, 144, 145, 146, 147, 148, 149, 150, 206, 207, 208, 209, 11, 12, 210, 211, 212, 213, 214, 215, 216, 217, 218, 219, 220, 221, 222, 223, 224, 225, 226, 227, 228, 14, 13, 15, 229, 230, 231, 232, 233, 234, 235, 236, 237, 249, 250, 251, 252, 253, 254, 255, 256, 257, 260, 261, 262, 263, 264, 265, 258, 259] (by decide +kernel) (by decide +kernel)
set_option maxRecDepth 20000 in
theorem gX4_read_X0_parse : GoodIn wsX4_read (wsV RX4 67 RX0 yX0_parse wsX0_parse) := goodIn_app (goodIn_of _ (by decide +kernel)) ggX4_read_X0_parse
set_option maxRecDepth 20000 in
theorem ggX4_read_X2_clear : GoodIn wsX4_read wsX2_clear := goodIn_r _ [241, 45, 46, 242, 19, 20, 21, 22, 23, 266, 267, 258, 259] (by decide +kernel) (by decide +kernel)
set_option maxRecDepth 20000 in
theorem gX4_read_X2_clear : GoodIn wsX4_read (wsV RX4 73 RX2 yX2_clear wsX2_clear) := goodIn_app (goodIn_of _ (by decide +kernel)) ggX4_read_X2_clear
theorem dX4_read_0 : decode cX4_read 0 = .ok (.iconst 0, 1) := by decide +kernel
theorem dX4_read_1 : decode cX4_read 1 = .ok (.istore_n 1, 1) := by decide +kernel
theorem dX4_read_2 : decode cX4_read 2 = .ok (.aload_n 0, 1) := by decide +kernel
theorem dX4_read_3 : decode cX4_read 3 = .ok (.iconst (-1), 1) := by decide +kernel
theorem dX4_read_4 : decode cX4_read 4 = .ok (.putfield 41, 3) := by decide +kernel
theorem dX4_read_7 : decode cX4_read 7 = .ok (.aload_n 0, 1) := by decide +kernel
theorem dX4_read_8 : decode cX4_read 8 = .ok (.getfield 33, 3) := by decide +kernel
theorem dX4_read_11 : decode cX4_read 11 = .ok (.invokevirtual 56, 3) := by decide +kernel
theorem dX4_read_14 : decode cX4_read 14 = .ok (.aload_n 0, 1) := by decide +kernel
theorem dX4_read_15 : decode cX4_read 15 = .ok (.getfield 24, 3) := by decide +kernel
theorem dX4_read_18 : decode cX4_read 18 = .ok (.invokevirtual 59, 3) := by decide +kernel
theorem dX4_read_21 : decode cX4_read 21 = .ok (.ifCond .ne 19, 3) := by decide +kernel
theorem dX4_read_24 : decode cX4_read 24 = .ok (.iconst 1, 1) := by decide +kernel
theorem dX4_read_25 : decode cX4_read 25 = .ok (.istore_n 1, 1) := by decide +kernel
theorem dX4_read_26 : decode cX4_read 26 = .ok (.aload_n 0, 1) := by decide +kernel
theorem dX4_read_27 : decode cX4_read 27 = .ok (.aload_n 0, 1) := by decide +kernel
theorem dX4_read_28 : decode cX4_read 28 = .ok (.getfield 24, 3) := by decide +kernel
theorem dX4_read_31 : decode cX4_read 31 = .ok (.invokevirtual 63, 3) := by decide +kernel
theorem dX4_read_34 : decode cX4_read 34 = .ok (.putfield 41, 3) := by decide +kernel
theorem dX4_read_37 : decode cX4_read 37 = .ok (.goto 26, 3) := by decide +kernel
theorem dX4_read_40 : decode cX4_read 40 = .ok (.aload_n 0, 1) := by decide +kernel
theorem dX4_read_41 : decode cX4_read 41 = .ok (.getfield 33, 3) := by decide +kernel
theorem dX4_read_44 : decode cX4_read 44 = .ok (.invokevirtual 67, 3) := by decide +kernel
theorem dX4_read_47 : decode cX4_read 47 = .ok (.ifCond .ne 16, 3) := by decide +kernel
theorem dX4_read_50 : decode cX4_read 50 = .ok (.iconst 2, 1) := by decide +kernel
theorem dX4_read_51 : decode cX4_read 51 = .ok (.istore_n 1, 1) := by decide +kernel
theorem dX4_read_52 : decode cX4_read 52 = .ok (.aload_n 0, 1) := by decide +kernel
theorem dX4_read_53 : decode cX4_read 53 = .ok (.aload_n 0, 1) := by decide +kernel
theorem dX4_read_54 : decode cX4_read 54 = .ok (.getfield 33, 3) := by decide +kernel
theorem dX4_read_57 : decode cX4_read 57 = .ok (.getfield 70, 3) := by decide +kernel
theorem dX4_read_60 : decode cX4_read 60 = .ok (.putfield 41, 3) := by decide +kernel
theorem dX4_read_63 : decode cX4_read 63 = .ok (.aload_n 0, 1) := by decide +kernel
theorem dX4_read_64 : decode cX4_read 64 = .ok (.getfield 16, 3) := by decide +kernel
theorem dX4_read_67 : decode cX4_read 67 = .ok (.invokevirtual 73, 3) := by decide +kernel
theorem dX4_read_70 : decode cX4_read 70 = .ok (.iload_n 1, 1) := by decide +kernel
theorem dX4_read_71 : decode cX4_read 71 = .ok (.ireturn, 1) := by decide +kernel
theorem dX4_faultAt_0 : decode cX4_faultAt 0 = .ok (.aload_n 0, 1) := by decide +kernel
theorem dX4_faultAt_1 : decode cX4_faultAt 1 = .ok (.getfield 41, 3) := by decide +kernel
theorem dX4_faultAt_4 : decode cX4_faultAt 4 = .ok (.ireturn, 1) := by decide +kernel
set_option maxRecDepth 20000 in
theorem ggX4_size_X3_count : GoodIn wsX4_size wsX3_count := goodIn_r _ [7, 8, 26, 27, 28, 29, 30, 31, 24, 25] (by decide +kernel) (by decide +kernel)
set_option maxRecDepth 20000 in
theorem gX4_size_X3_count : GoodIn wsX4_size (wsV RX4 63 RX3 yX3_count wsX3_count) := goodIn_app (goodIn_of _ (by decide +kernel)) ggX4_size_X3_count
theorem dX4_size_0 : decode cX4_size 0 = .ok (.iload_n 1, 1) := by decide +kernel
theorem dX4_size_1 : decode cX4_size 1 = .ok (.tableswitch 72 0 3 #[31, 39, 50, 61], 31) := by decide +kernel
theorem dX4_size_32 : decode cX4_size 32 = .ok (.aload_n 0, 1) := by decide +kernel
theorem dX4_size_33 : decode cX4_size 33 = .ok (.getfield 24, 3) := by decide +kernel
theorem dX4_size_36 : decode cX4_size 36 = .ok (.invokevirtual 63, 3) := by decide +kernel
theorem dX4_size_39 : decode cX4_size 39 = .ok (.ireturn, 1) := by decide +kernel
theorem dX4_size_40 : decode cX4_size 40 = .ok (.aload_n 0, 1) := by decide +kernel
theorem dX4_size_41 : decode cX4_size 41 = .ok (.getfield 33, 3) := by decide +kernel
theorem dX4_size_44 : decode cX4_size 44 = .ok (.getfield 74, 3) := by decide +kernel
theorem dX4_size_47 : decode cX4_size 47 = .ok (.getfield 78, 3) := by decide +kernel
theorem dX4_size_50 : decode cX4_size 50 = .ok (.ireturn, 1) := by decide +kernel
theorem dX4_size_51 : decode cX4_size 51 = .ok (.aload_n 0, 1) := by decide +kernel
theorem dX4_size_52 : decode cX4_size 52 = .ok (.getfield 33, 3) := by decide +kernel
theorem dX4_size_55 : decode cX4_size 55 = .ok (.getfield 82, 3) := by decide +kernel
theorem dX4_size_58 : decode cX4_size 58 = .ok (.getfield 78, 3) := by decide +kernel
theorem dX4_size_61 : decode cX4_size 61 = .ok (.ireturn, 1) := by decide +kernel
theorem dX4_size_62 : decode cX4_size 62 = .ok (.aload_n 0, 1) := by decide +kernel
theorem dX4_size_63 : decode cX4_size 63 = .ok (.getfield 33, 3) := by decide +kernel
theorem dX4_size_66 : decode cX4_size 66 = .ok (.getfield 85, 3) := by decide +kernel
theorem dX4_size_69 : decode cX4_size 69 = .ok (.getfield 78, 3) := by decide +kernel
theorem dX4_size_72 : decode cX4_size 72 = .ok (.ireturn, 1) := by decide +kernel
theorem dX4_size_73 : decode cX4_size 73 = .ok (.iconst (-1), 1) := by decide +kernel
theorem dX4_size_74 : decode cX4_size 74 = .ok (.ireturn, 1) := by decide +kernel
set_option maxRecDepth 20000 in
theorem ggX4_token_X1_get : GoodIn wsX4_token wsX1_get := goodIn_r _ [6, 7, 8, 21, 22] (by decide +kernel) (by decide +kernel)
set_option maxRecDepth 20000 in
theorem gX4_token_X1_get : GoodIn wsX4_token (wsV RX4 91 RX1 yX1_get wsX1_get) := goodIn_app (goodIn_of _ (by decide +kernel)) ggX4_token_X1_get
theorem dX4_token_0 : decode cX4_token 0 = .ok (.iload_n 2, 1) := by decide +kernel
theorem dX4_token_1 : decode cX4_token 1 = .ok (.ifCond .eq 17, 3) := by decide +kernel
theorem dX4_token_4 : decode cX4_token 4 = .ok (.aload_n 0, 1) := by decide +kernel
theorem dX4_token_5 : decode cX4_token 5 = .ok (.getfield 24, 3) := by decide +kernel
theorem dX4_token_8 : decode cX4_token 8 = .ok (.getfield 88, 3) := by decide +kernel
theorem dX4_token_11 : decode cX4_token 11 = .ok (.iload_n 1, 1) := by decide +kernel
theorem dX4_token_12 : decode cX4_token 12 = .ok (.invokevirtual 91, 3) := by decide +kernel
theorem dX4_token_15 : decode cX4_token 15 = .ok (.goto 14, 3) := by decide +kernel
theorem dX4_token_18 : decode cX4_token 18 = .ok (.aload_n 0, 1) := by decide +kernel
theorem dX4_token_19 : decode cX4_token 19 = .ok (.getfield 24, 3) := by decide +kernel
theorem dX4_token_22 : decode cX4_token 22 = .ok (.getfield 95, 3) := by decide +kernel
theorem dX4_token_25 : decode cX4_token 25 = .ok (.iload_n 1, 1) := by decide +kernel
theorem dX4_token_26 : decode cX4_token 26 = .ok (.invokevirtual 91, 3) := by decide +kernel
theorem dX4_token_29 : decode cX4_token 29 = .ok (.ireturn, 1) := by decide +kernel
set_option maxRecDepth 20000 in
theorem ggX4_classAt_X1_get : GoodIn wsX4_classAt wsX1_get := goodIn_r _ [6, 7, 8, 24, 25] (by decide +kernel) (by decide +kernel)
set_option maxRecDepth 20000 in
theorem gX4_classAt_X1_get : GoodIn wsX4_classAt (wsV RX4 91 RX1 yX1_get wsX1_get) := goodIn_app (goodIn_of _ (by decide +kernel)) ggX4_classAt_X1_get
theorem dX4_classAt_0 : decode cX4_classAt 0 = .ok (.aload_n 0, 1) := by decide +kernel
theorem dX4_classAt_1 : decode cX4_classAt 1 = .ok (.getfield 33, 3) := by decide +kernel
theorem dX4_classAt_4 : decode cX4_classAt 4 = .ok (.getfield 74, 3) := by decide +kernel
theorem dX4_classAt_7 : decode cX4_classAt 7 = .ok (.iload_n 1, 1) := by decide +kernel
theorem dX4_classAt_8 : decode cX4_classAt 8 = .ok (.invokevirtual 91, 3) := by decide +kernel
theorem dX4_classAt_11 : decode cX4_classAt 11 = .ok (.ireturn, 1) := by decide +kernel
set_option maxRecDepth 20000 in
theorem ggX4_member_X1_get : GoodIn wsX4_member wsX1_get := goodIn_r _ [6, 7, 8, 24, 25] (by decide +kernel) (by decide +kernel)
set_option maxRecDepth 20000 in
theorem gX4_member_X1_get : GoodIn wsX4_member (wsV RX4 91 RX1 yX1_get wsX1_get) := goodIn_app (goodIn_of _ (by decide +kernel)) ggX4_member_X1_get
theorem dX4_member_0 : decode cX4_member 0 = .ok (.aload_n 0, 1) := by decide +kernel
theorem dX4_member_1 : decode cX4_member 1 = .ok (.getfield 33, 3) := by decide +kernel
theorem dX4_member_4 : decode cX4_member 4 = .ok (.getfield 98, 3) := by decide +kernel
theorem dX4_member_7 : decode cX4_member 7 = .ok (.iload_n 1, 1) := by decide +kernel
theorem dX4_member_8 : decode cX4_member 8 = .ok (.invokevirtual 91, 3) := by decide +kernel
theorem dX4_member_11 : decode cX4_member 11 = .ok (.ireturn, 1) := by decide +kernel
set_option maxRecDepth 20000 in
theorem ggX4_memberAt_X1_get : GoodIn wsX4_memberAt wsX1_get := goodIn_r _ [6, 7, 8, 24, 25] (by decide +kernel) (by decide +kernel)
set_option maxRecDepth 20000 in
theorem gX4_memberAt_X1_get : GoodIn wsX4_memberAt (wsV RX4 91 RX1 yX1_get wsX1_get) := goodIn_app (goodIn_of _ (by decide +kernel)) ggX4_memberAt_X1_get
theorem dX4_memberAt_0 : decode cX4_memberAt 0 = .ok (.aload_n 0, 1) := by decide +kernel
theorem dX4_memberAt_1 : decode cX4_memberAt 1 = .ok (.getfield 33, 3) := by decide +kernel
theorem dX4_memberAt_4 : decode cX4_memberAt 4 = .ok (.getfield 82, 3) := by decide +kernel
theorem dX4_memberAt_7 : decode cX4_memberAt 7 = .ok (.iload_n 1, 1) := by decide +kernel
theorem dX4_memberAt_8 : decode cX4_memberAt 8 = .ok (.invokevirtual 91, 3) := by decide +kernel
theorem dX4_memberAt_11 : decode cX4_memberAt 11 = .ok (.ireturn, 1) := by decide +kernel
set_option maxRecDepth 20000 in
theorem ggX4_line_X1_get : GoodIn wsX4_line wsX1_get := goodIn_r _ [6, 7, 8, 24, 25] (by decide +kernel) (by decide +kernel)
set_option maxRecDepth 20000 in
theorem gX4_line_X1_get : GoodIn wsX4_line (wsV RX4 91 RX1 yX1_get wsX1_get) := goodIn_app (goodIn_of _ (by decide +kernel)) ggX4_line_X1_get
theorem dX4_line_0 : decode cX4_line 0 = .ok (.aload_n 0, 1) := by decide +kernel
theorem dX4_line_1 : decode cX4_line 1 = .ok (.getfield 33, 3) := by decide +kernel
theorem dX4_line_4 : decode cX4_line 4 = .ok (.getfield 101, 3) := by decide +kernel
theorem dX4_line_7 : decode cX4_line 7 = .ok (.iload_n 1, 1) := by decide +kernel
theorem dX4_line_8 : decode cX4_line 8 = .ok (.invokevirtual 91, 3) := by decide +kernel
theorem dX4_line_11 : decode cX4_line 11 = .ok (.ireturn, 1) := by decide +kernel
set_option maxRecDepth 20000 in
theorem ggX4_lineAt_X1_get : GoodIn wsX4_lineAt wsX1_get := goodIn_r _ [6, 7, 8, 24, 25] (by decide +kernel) (by decide +kernel)
set_option maxRecDepth 20000 in
theorem gX4_lineAt_X1_get : GoodIn wsX4_lineAt (wsV RX4 91 RX1 yX1_get wsX1_get) := goodIn_app (goodIn_of _ (by decide +kernel)) ggX4_lineAt_X1_get
theorem dX4_lineAt_0 : decode cX4_lineAt 0 = .ok (.aload_n 0, 1) := by decide +kernel
theorem dX4_lineAt_1 : decode cX4_lineAt 1 = .ok (.getfield 33, 3) := by decide +kernel
theorem dX4_lineAt_4 : decode cX4_lineAt 4 = .ok (.getfield 85, 3) := by decide +kernel
theorem dX4_lineAt_7 : decode cX4_lineAt 7 = .ok (.iload_n 1, 1) := by decide +kernel
theorem dX4_lineAt_8 : decode cX4_lineAt 8 = .ok (.invokevirtual 91, 3) := by decide +kernel
theorem dX4_lineAt_11 : decode cX4_lineAt 11 = .ok (.ireturn, 1) := by decide +kernel
set_option maxRecDepth 20000 in
theorem ggX4_instruction_X1_get : GoodIn wsX4_instruction wsX1_get := goodIn_r _ [6, 7, 8, 24, 25] (by decide +kernel) (by decide +kernel)
set_option maxRecDepth 20000 in
theorem gX4_instruction_X1_get : GoodIn wsX4_instruction (wsV RX4 91 RX1 yX1_get wsX1_get) := goodIn_app (goodIn_of _ (by decide +kernel)) ggX4_instruction_X1_get
theorem dX4_instruction_0 : decode cX4_instruction 0 = .ok (.aload_n 0, 1) := by decide +kernel
theorem dX4_instruction_1 : decode cX4_instruction 1 = .ok (.getfield 33, 3) := by decide +kernel
theorem dX4_instruction_4 : decode cX4_instruction 4 = .ok (.getfield 104, 3) := by decide +kernel
theorem dX4_instruction_7 : decode cX4_instruction 7 = .ok (.iload_n 1, 1) := by decide +kernel
theorem dX4_instruction_8 : decode cX4_instruction 8 = .ok (.invokevirtual 91, 3) := by decide +kernel
theorem dX4_instruction_11 : decode cX4_instruction 11 = .ok (.ireturn, 1) := by decide +kernel
theorem dX5_init_0 : decode cX5_init 0 = .ok (.aload_n 0, 1) := by decide +kernel
theorem dX5_init_1 : decode cX5_init 1 = .ok (.invokespecial 1, 3) := by decide +kernel
theorem dX5_init_4 : decode cX5_init 4 = .ok (.aload_n 0, 1) := by decide +kernel
theorem dX5_init_5 : decode cX5_init 5 = .ok (.sipush 16000, 3) := by decide +kernel
theorem dX5_init_8 : decode cX5_init 8 = .ok (.newarray .byte, 2) := by decide +kernel
theorem dX5_init_10 : decode cX5_init 10 = .ok (.putfield 9, 3) := by decide +kernel
theorem dX5_init_13 : decode cX5_init 13 = .ok (.aload_n 0, 1) := by decide +kernel
theorem dX5_init_14 : decode cX5_init 14 = .ok (.sipush 16000, 3) := by decide +kernel
theorem dX5_init_17 : decode cX5_init 17 = .ok (.newarray .byte, 2) := by decide +kernel
theorem dX5_init_19 : decode cX5_init 19 = .ok (.putfield 13, 3) := by decide +kernel
theorem dX5_init_22 : decode cX5_init 22 = .ok (.aload_n 0, 1) := by decide +kernel
theorem dX5_init_23 : decode cX5_init 23 = .ok (.sipush 16002, 3) := by decide +kernel
theorem dX5_init_26 : decode cX5_init 26 = .ok (.newarray .int, 2) := by decide +kernel
theorem dX5_init_28 : decode cX5_init 28 = .ok (.putfield 16, 3) := by decide +kernel
theorem dX5_init_31 : decode cX5_init 31 = .ok (.aload_n 0, 1) := by decide +kernel
theorem dX5_init_32 : decode cX5_init 32 = .ok (.sipush 16002, 3) := by decide +kernel
theorem dX5_init_35 : decode cX5_init 35 = .ok (.newarray .int, 2) := by decide +kernel
theorem dX5_init_37 : decode cX5_init 37 = .ok (.putfield 20, 3) := by decide +kernel
theorem dX5_init_40 : decode cX5_init 40 = .ok (.aload_n 0, 1) := by decide +kernel
theorem dX5_init_41 : decode cX5_init 41 = .ok (.iconst (-1), 1) := by decide +kernel
theorem dX5_init_42 : decode cX5_init 42 = .ok (.putfield 23, 3) := by decide +kernel
theorem dX5_init_45 : decode cX5_init 45 = .ok (.aload_n 0, 1) := by decide +kernel
theorem dX5_init_46 : decode cX5_init 46 = .ok (.sipush 16000, 3) := by decide +kernel
theorem dX5_init_49 : decode cX5_init 49 = .ok (.newarray .int, 2) := by decide +kernel
theorem dX5_init_51 : decode cX5_init 51 = .ok (.putfield 27, 3) := by decide +kernel
theorem dX5_init_54 : decode cX5_init 54 = .ok (.aload_n 0, 1) := by decide +kernel
theorem dX5_init_55 : decode cX5_init 55 = .ok (.sipush 16000, 3) := by decide +kernel
theorem dX5_init_58 : decode cX5_init 58 = .ok (.newarray .int, 2) := by decide +kernel
theorem dX5_init_60 : decode cX5_init 60 = .ok (.putfield 30, 3) := by decide +kernel
theorem dX5_init_63 : decode cX5_init 63 = .ok (.aload_n 0, 1) := by decide +kernel
theorem dX5_init_64 : decode cX5_init 64 = .ok (.sipush 16000, 3) := by decide +kernel
theorem dX5_init_67 : decode cX5_init 67 = .ok (.newarray .byte, 2) := by decide +kernel
theorem dX5_init_69 : decode cX5_init 69 = .ok (.putfield 33, 3) := by decide +kernel
theorem dX5_init_72 : decode cX5_init 72 = .ok (.aload_n 0, 1) := by decide +kernel
theorem dX5_init_73 : decode cX5_init 73 = .ok (.sipush 16000, 3) := by decide +kernel
theorem dX5_init_76 : decode cX5_init 76 = .ok (.newarray .int, 2) := by decide +kernel
theorem dX5_init_78 : decode cX5_init 78 = .ok (.putfield 36, 3) := by decide +kernel
theorem dX5_init_81 : decode cX5_init 81 = .ok (.aload_n 0, 1) := by decide +kernel
theorem dX5_init_82 : decode cX5_init 82 = .ok (.sipush 16000, 3) := by decide +kernel
theorem dX5_init_85 : decode cX5_init 85 = .ok (.newarray .int, 2) := by decide +kernel
theorem dX5_init_87 : decode cX5_init 87 = .ok (.putfield 39, 3) := by decide +kernel
theorem dX5_init_90 : decode cX5_init 90 = .ok (.return_, 1) := by decide +kernel
theorem dX5_word_0 : decode cX5_word 0 = .ok (.iconst 3, 1) := by decide +kernel
theorem dX5_word_1 : decode cX5_word 1 = .ok (.istore_n 2, 1) := by decide +kernel
theorem dX5_word_2 : decode cX5_word 2 = .ok (.iload_n 2, 1) := by decide +kernel
theorem dX5_word_3 : decode cX5_word 3 = .ok (.ifCond .lt 35, 3) := by decide +kernel
theorem dX5_word_6 : decode cX5_word 6 = .ok (.aload_n 0, 1) := by decide +kernel
theorem dX5_word_7 : decode cX5_word 7 = .ok (.getfield 9, 3) := by decide +kernel
theorem dX5_word_10 : decode cX5_word 10 = .ok (.aload_n 0, 1) := by decide +kernel
theorem dX5_word_11 : decode cX5_word 11 = .ok (.getfield 42, 3) := by decide +kernel
theorem dX5_word_14 : decode cX5_word 14 = .ok (.iload_n 1, 1) := by decide +kernel
theorem dX5_word_15 : decode cX5_word 15 = .ok (.bipush 8, 2) := by decide +kernel
theorem dX5_word_17 : decode cX5_word 17 = .ok (.iload_n 2, 1) := by decide +kernel
theorem dX5_word_18 : decode cX5_word 18 = .ok (.imul, 1) := by decide +kernel
theorem dX5_word_19 : decode cX5_word 19 = .ok (.ishr, 1) := by decide +kernel
theorem dX5_word_20 : decode cX5_word 20 = .ok (.i2b, 1) := by decide +kernel
theorem dX5_word_21 : decode cX5_word 21 = .ok (.bastore, 1) := by decide +kernel
theorem dX5_word_22 : decode cX5_word 22 = .ok (.aload_n 0, 1) := by decide +kernel
theorem dX5_word_23 : decode cX5_word 23 = .ok (.dup, 1) := by decide +kernel
theorem dX5_word_24 : decode cX5_word 24 = .ok (.getfield 42, 3) := by decide +kernel
theorem dX5_word_27 : decode cX5_word 27 = .ok (.iconst 1, 1) := by decide +kernel
theorem dX5_word_28 : decode cX5_word 28 = .ok (.iadd, 1) := by decide +kernel
theorem dX5_word_29 : decode cX5_word 29 = .ok (.putfield 42, 3) := by decide +kernel
theorem dX5_word_32 : decode cX5_word 32 = .ok (.iinc 2 (-1), 3) := by decide +kernel
theorem dX5_word_35 : decode cX5_word 35 = .ok (.goto (-33), 3) := by decide +kernel
theorem dX5_word_38 : decode cX5_word 38 = .ok (.return_, 1) := by decide +kernel
set_option maxRecDepth 20000 in
theorem ggX5_feed_X5_word : GoodIn wsX5_feed wsX5_word := goodIn_r _ [8, 9, 1, 10, 11, 12, 13, 14, 15, 16, 17, 18, 19, 20, 21, 22, 23, 24, 25, 26, 27] (by decide +kernel) (by decide +kernel)
set_option maxRecDepth 20000 in
theorem gX5_feed_X5_word : GoodIn wsX5_feed (wsV RX5 49 RX5 yX5_word wsX5_word) := goodIn_app (goodIn_of _ (by decide +kernel)) ggX5_feed_X5_word
theorem dX5_feed_0 : decode cX5_feed 0 = .ok (.aload_n 0, 1) := by decide +kernel
theorem dX5_feed_1 : decode cX5_feed 1 = .ok (.getfield 42, 3) := by decide +kernel
theorem dX5_feed_4 : decode cX5_feed 4 = .ok (.bipush 20, 2) := by decide +kernel
theorem dX5_feed_6 : decode cX5_feed 6 = .ok (.iadd, 1) := by decide +kernel
theorem dX5_feed_7 : decode cX5_feed 7 = .ok (.sipush 16000, 3) := by decide +kernel
theorem dX5_feed_10 : decode cX5_feed 10 = .ok (.if_icmp .gt 15, 3) := by decide +kernel
theorem dX5_feed_13 : decode cX5_feed 13 = .ok (.aload_n 0, 1) := by decide +kernel
theorem dX5_feed_14 : decode cX5_feed 14 = .ok (.getfield 45, 3) := by decide +kernel
theorem dX5_feed_17 : decode cX5_feed 17 = .ok (.bipush 20, 2) := by decide +kernel
theorem dX5_feed_19 : decode cX5_feed 19 = .ok (.iadd, 1) := by decide +kernel
theorem dX5_feed_20 : decode cX5_feed 20 = .ok (.ldc 48, 2) := by decide +kernel
theorem dX5_feed_22 : decode cX5_feed 22 = .ok (.if_icmp .le 5, 3) := by decide +kernel
theorem dX5_feed_25 : decode cX5_feed 25 = .ok (.iconst (-1), 1) := by decide +kernel
theorem dX5_feed_26 : decode cX5_feed 26 = .ok (.ireturn, 1) := by decide +kernel
theorem dX5_feed_27 : decode cX5_feed 27 = .ok (.aload_n 0, 1) := by decide +kernel
theorem dX5_feed_28 : decode cX5_feed 28 = .ok (.iload_n 1, 1) := by decide +kernel
theorem dX5_feed_29 : decode cX5_feed 29 = .ok (.invokevirtual 49, 3) := by decide +kernel
theorem dX5_feed_32 : decode cX5_feed 32 = .ok (.aload_n 0, 1) := by decide +kernel
theorem dX5_feed_33 : decode cX5_feed 33 = .ok (.iload_n 2, 1) := by decide +kernel
theorem dX5_feed_34 : decode cX5_feed 34 = .ok (.invokevirtual 49, 3) := by decide +kernel
theorem dX5_feed_37 : decode cX5_feed 37 = .ok (.aload_n 0, 1) := by decide +kernel
theorem dX5_feed_38 : decode cX5_feed 38 = .ok (.iload_n 3, 1) := by decide +kernel
theorem dX5_feed_39 : decode cX5_feed 39 = .ok (.invokevirtual 49, 3) := by decide +kernel
theorem dX5_feed_42 : decode cX5_feed 42 = .ok (.aload_n 0, 1) := by decide +kernel
theorem dX5_feed_43 : decode cX5_feed 43 = .ok (.iload 4, 2) := by decide +kernel
theorem dX5_feed_45 : decode cX5_feed 45 = .ok (.invokevirtual 49, 3) := by decide +kernel
theorem dX5_feed_48 : decode cX5_feed 48 = .ok (.aload_n 0, 1) := by decide +kernel
theorem dX5_feed_49 : decode cX5_feed 49 = .ok (.iload 5, 2) := by decide +kernel
theorem dX5_feed_51 : decode cX5_feed 51 = .ok (.invokevirtual 49, 3) := by decide +kernel
theorem dX5_feed_54 : decode cX5_feed 54 = .ok (.aload_n 0, 1) := by decide +kernel
theorem dX5_feed_55 : decode cX5_feed 55 = .ok (.dup, 1) := by decide +kernel
theorem dX5_feed_56 : decode cX5_feed 56 = .ok (.getfield 45, 3) := by decide +kernel
theorem dX5_feed_59 : decode cX5_feed 59 = .ok (.bipush 20, 2) := by decide +kernel
theorem dX5_feed_61 : decode cX5_feed 61 = .ok (.iadd, 1) := by decide +kernel
theorem dX5_feed_62 : decode cX5_feed 62 = .ok (.putfield 45, 3) := by decide +kernel
theorem dX5_feed_65 : decode cX5_feed 65 = .ok (.aload_n 0, 1) := by decide +kernel
theorem dX5_feed_66 : decode cX5_feed 66 = .ok (.getfield 42, 3) := by decide +kernel
theorem dX5_feed_69 : decode cX5_feed 69 = .ok (.ireturn, 1) := by decide +kernel
theorem dX5_end_0 : decode cX5_end 0 = .ok (.iload_n 1, 1) := by decide +kernel
theorem dX5_end_1 : decode cX5_end 1 = .ok (.ifCond .lt 11, 3) := by decide +kernel
theorem dX5_end_4 : decode cX5_end 4 = .ok (.iload_n 1, 1) := by decide +kernel
theorem dX5_end_5 : decode cX5_end 5 = .ok (.aload_n 0, 1) := by decide +kernel
theorem dX5_end_6 : decode cX5_end 6 = .ok (.getfield 42, 3) := by decide +kernel
theorem dX5_end_9 : decode cX5_end 9 = .ok (.if_icmp .le 5, 3) := by decide +kernel
theorem dX5_end_12 : decode cX5_end 12 = .ok (.iconst 0, 1) := by decide +kernel
theorem dX5_end_13 : decode cX5_end 13 = .ok (.ireturn, 1) := by decide +kernel
theorem dX5_end_14 : decode cX5_end 14 = .ok (.iconst 0, 1) := by decide +kernel
theorem dX5_end_15 : decode cX5_end 15 = .ok (.istore_n 2, 1) := by decide +kernel
theorem dX5_end_16 : decode cX5_end 16 = .ok (.iload_n 2, 1) := by decide +kernel
theorem dX5_end_17 : decode cX5_end 17 = .ok (.iload_n 1, 1) := by decide +kernel
theorem dX5_end_18 : decode cX5_end 18 = .ok (.if_icmp .ge 21, 3) := by decide +kernel
theorem dX5_end_21 : decode cX5_end 21 = .ok (.aload_n 0, 1) := by decide +kernel
theorem dX5_end_22 : decode cX5_end 22 = .ok (.getfield 13, 3) := by decide +kernel
theorem dX5_end_25 : decode cX5_end 25 = .ok (.iload_n 2, 1) := by decide +kernel
theorem dX5_end_26 : decode cX5_end 26 = .ok (.aload_n 0, 1) := by decide +kernel
theorem dX5_end_27 : decode cX5_end 27 = .ok (.getfield 9, 3) := by decide +kernel
theorem dX5_end_30 : decode cX5_end 30 = .ok (.iload_n 2, 1) := by decide +kernel
theorem dX5_end_31 : decode cX5_end 31 = .ok (.baload, 1) := by decide +kernel
theorem dX5_end_32 : decode cX5_end 32 = .ok (.bastore, 1) := by decide +kernel
theorem dX5_end_33 : decode cX5_end 33 = .ok (.iinc 2 1, 3) := by decide +kernel
theorem dX5_end_36 : decode cX5_end 36 = .ok (.goto (-20), 3) := by decide +kernel
theorem dX5_end_39 : decode cX5_end 39 = .ok (.aload_n 0, 1) := by decide +kernel
theorem dX5_end_40 : decode cX5_end 40 = .ok (.iload_n 1, 1) := by decide +kernel
theorem dX5_end_41 : decode cX5_end 41 = .ok (.putfield 53, 3) := by decide +kernel
theorem dX5_end_44 : decode cX5_end 44 = .ok (.aload_n 0, 1) := by decide +kernel
theorem dX5_end_45 : decode cX5_end 45 = .ok (.iconst 0, 1) := by decide +kernel
theorem dX5_end_46 : decode cX5_end 46 = .ok (.putfield 42, 3) := by decide +kernel
theorem dX5_end_49 : decode cX5_end 49 = .ok (.iconst 1, 1) := by decide +kernel
theorem dX5_end_50 : decode cX5_end 50 = .ok (.ireturn, 1) := by decide +kernel
theorem dX5_cut_0 : decode cX5_cut 0 = .ok (.aload_n 0, 1) := by decide +kernel
theorem dX5_cut_1 : decode cX5_cut 1 = .ok (.iconst 0, 1) := by decide +kernel
theorem dX5_cut_2 : decode cX5_cut 2 = .ok (.putfield 56, 3) := by decide +kernel
theorem dX5_cut_5 : decode cX5_cut 5 = .ok (.iconst 0, 1) := by decide +kernel
theorem dX5_cut_6 : decode cX5_cut 6 = .ok (.istore_n 1, 1) := by decide +kernel
theorem dX5_cut_7 : decode cX5_cut 7 = .ok (.iconst 0, 1) := by decide +kernel
theorem dX5_cut_8 : decode cX5_cut 8 = .ok (.istore_n 2, 1) := by decide +kernel
theorem dX5_cut_9 : decode cX5_cut 9 = .ok (.iconst 0, 1) := by decide +kernel
theorem dX5_cut_10 : decode cX5_cut 10 = .ok (.istore_n 3, 1) := by decide +kernel
theorem dX5_cut_11 : decode cX5_cut 11 = .ok (.iload_n 3, 1) := by decide +kernel
theorem dX5_cut_12 : decode cX5_cut 12 = .ok (.aload_n 0, 1) := by decide +kernel
theorem dX5_cut_13 : decode cX5_cut 13 = .ok (.getfield 53, 3) := by decide +kernel
theorem dX5_cut_16 : decode cX5_cut 16 = .ok (.if_icmp .ge 230, 3) := by decide +kernel
theorem dX5_cut_19 : decode cX5_cut 19 = .ok (.aload_n 0, 1) := by decide +kernel
theorem dX5_cut_20 : decode cX5_cut 20 = .ok (.getfield 13, 3) := by decide +kernel
theorem dX5_cut_23 : decode cX5_cut 23 = .ok (.iload_n 3, 1) := by decide +kernel
theorem dX5_cut_24 : decode cX5_cut 24 = .ok (.baload, 1) := by decide +kernel
theorem dX5_cut_25 : decode cX5_cut 25 = .ok (.istore 4, 2) := by decide +kernel
theorem dX5_cut_27 : decode cX5_cut 27 = .ok (.iload 4, 2) := by decide +kernel
theorem dX5_cut_29 : decode cX5_cut 29 = .ok (.bipush 9, 2) := by decide +kernel
theorem dX5_cut_31 : decode cX5_cut 31 = .ok (.if_icmp .eq 33, 3) := by decide +kernel
theorem dX5_cut_34 : decode cX5_cut 34 = .ok (.iload 4, 2) := by decide +kernel
theorem dX5_cut_36 : decode cX5_cut 36 = .ok (.bipush 10, 2) := by decide +kernel
theorem dX5_cut_38 : decode cX5_cut 38 = .ok (.if_icmp .eq 26, 3) := by decide +kernel
theorem dX5_cut_41 : decode cX5_cut 41 = .ok (.iload 4, 2) := by decide +kernel
theorem dX5_cut_43 : decode cX5_cut 43 = .ok (.bipush 13, 2) := by decide +kernel
theorem dX5_cut_45 : decode cX5_cut 45 = .ok (.if_icmp .eq 19, 3) := by decide +kernel
theorem dX5_cut_48 : decode cX5_cut 48 = .ok (.iload 4, 2) := by decide +kernel
theorem dX5_cut_50 : decode cX5_cut 50 = .ok (.bipush 32, 2) := by decide +kernel
theorem dX5_cut_52 : decode cX5_cut 52 = .ok (.if_icmp .lt 10, 3) := by decide +kernel
theorem dX5_cut_55 : decode cX5_cut 55 = .ok (.iload 4, 2) := by decide +kernel
theorem dX5_cut_57 : decode cX5_cut 57 = .ok (.bipush 126, 2) := by decide +kernel
theorem dX5_cut_59 : decode cX5_cut 59 = .ok (.if_icmp .le 5, 3) := by decide +kernel
theorem dX5_cut_62 : decode cX5_cut 62 = .ok (.iconst 0, 1) := by decide +kernel
theorem dX5_cut_63 : decode cX5_cut 63 = .ok (.ireturn, 1) := by decide +kernel
theorem dX5_cut_64 : decode cX5_cut 64 = .ok (.iload 4, 2) := by decide +kernel
theorem dX5_cut_66 : decode cX5_cut 66 = .ok (.bipush 10, 2) := by decide +kernel
theorem dX5_cut_68 : decode cX5_cut 68 = .ok (.if_icmp .ne 8, 3) := by decide +kernel
theorem dX5_cut_71 : decode cX5_cut 71 = .ok (.iconst 0, 1) := by decide +kernel
theorem dX5_cut_72 : decode cX5_cut 72 = .ok (.istore_n 2, 1) := by decide +kernel
theorem dX5_cut_73 : decode cX5_cut 73 = .ok (.goto 12, 3) := by decide +kernel
theorem dX5_cut_76 : decode cX5_cut 76 = .ok (.iload 4, 2) := by decide +kernel
theorem dX5_cut_78 : decode cX5_cut 78 = .ok (.bipush 59, 2) := by decide +kernel
theorem dX5_cut_80 : decode cX5_cut 80 = .ok (.if_icmp .ne 5, 3) := by decide +kernel
theorem dX5_cut_83 : decode cX5_cut 83 = .ok (.iconst 1, 1) := by decide +kernel
theorem dX5_cut_84 : decode cX5_cut 84 = .ok (.istore_n 2, 1) := by decide +kernel
theorem dX5_cut_85 : decode cX5_cut 85 = .ok (.iload_n 2, 1) := by decide +kernel
theorem dX5_cut_86 : decode cX5_cut 86 = .ok (.ifCond .ne 31, 3) := by decide +kernel
theorem dX5_cut_89 : decode cX5_cut 89 = .ok (.iload 4, 2) := by decide +kernel
theorem dX5_cut_91 : decode cX5_cut 91 = .ok (.bipush 9, 2) := by decide +kernel
theorem dX5_cut_93 : decode cX5_cut 93 = .ok (.if_icmp .eq 24, 3) := by decide +kernel
theorem dX5_cut_96 : decode cX5_cut 96 = .ok (.iload 4, 2) := by decide +kernel
theorem dX5_cut_98 : decode cX5_cut 98 = .ok (.bipush 10, 2) := by decide +kernel
theorem dX5_cut_100 : decode cX5_cut 100 = .ok (.if_icmp .eq 17, 3) := by decide +kernel
theorem dX5_cut_103 : decode cX5_cut 103 = .ok (.iload 4, 2) := by decide +kernel
theorem dX5_cut_105 : decode cX5_cut 105 = .ok (.bipush 13, 2) := by decide +kernel
theorem dX5_cut_107 : decode cX5_cut 107 = .ok (.if_icmp .eq 10, 3) := by decide +kernel
theorem dX5_cut_110 : decode cX5_cut 110 = .ok (.iload 4, 2) := by decide +kernel
theorem dX5_cut_112 : decode cX5_cut 112 = .ok (.bipush 32, 2) := by decide +kernel
theorem dX5_cut_114 : decode cX5_cut 114 = .ok (.if_icmp .ne 7, 3) := by decide +kernel
theorem dX5_cut_117 : decode cX5_cut 117 = .ok (.iconst 1, 1) := by decide +kernel
theorem dX5_cut_118 : decode cX5_cut 118 = .ok (.goto 4, 3) := by decide +kernel
theorem dX5_cut_121 : decode cX5_cut 121 = .ok (.iconst 0, 1) := by decide +kernel
theorem dX5_cut_122 : decode cX5_cut 122 = .ok (.istore 5, 2) := by decide +kernel
theorem dX5_cut_124 : decode cX5_cut 124 = .ok (.iload 5, 2) := by decide +kernel
theorem dX5_cut_126 : decode cX5_cut 126 = .ok (.ifCond .ne 42, 3) := by decide +kernel
theorem dX5_cut_129 : decode cX5_cut 129 = .ok (.iload 4, 2) := by decide +kernel
theorem dX5_cut_131 : decode cX5_cut 131 = .ok (.bipush 40, 2) := by decide +kernel
theorem dX5_cut_133 : decode cX5_cut 133 = .ok (.if_icmp .eq 31, 3) := by decide +kernel
theorem dX5_cut_136 : decode cX5_cut 136 = .ok (.iload 4, 2) := by decide +kernel
theorem dX5_cut_138 : decode cX5_cut 138 = .ok (.bipush 41, 2) := by decide +kernel
theorem dX5_cut_140 : decode cX5_cut 140 = .ok (.if_icmp .eq 24, 3) := by decide +kernel
theorem dX5_cut_143 : decode cX5_cut 143 = .ok (.iload 4, 2) := by decide +kernel
theorem dX5_cut_145 : decode cX5_cut 145 = .ok (.bipush 123, 2) := by decide +kernel
theorem dX5_cut_147 : decode cX5_cut 147 = .ok (.if_icmp .eq 17, 3) := by decide +kernel
theorem dX5_cut_150 : decode cX5_cut 150 = .ok (.iload 4, 2) := by decide +kernel
theorem dX5_cut_152 : decode cX5_cut 152 = .ok (.bipush 125, 2) := by decide +kernel
theorem dX5_cut_154 : decode cX5_cut 154 = .ok (.if_icmp .eq 10, 3) := by decide +kernel
theorem dX5_cut_157 : decode cX5_cut 157 = .ok (.iload 4, 2) := by decide +kernel
theorem dX5_cut_159 : decode cX5_cut 159 = .ok (.bipush 58, 2) := by decide +kernel
theorem dX5_cut_161 : decode cX5_cut 161 = .ok (.if_icmp .ne 7, 3) := by decide +kernel
theorem dX5_cut_164 : decode cX5_cut 164 = .ok (.iconst 1, 1) := by decide +kernel
theorem dX5_cut_165 : decode cX5_cut 165 = .ok (.goto 4, 3) := by decide +kernel
theorem dX5_cut_168 : decode cX5_cut 168 = .ok (.iconst 0, 1) := by decide +kernel
theorem dX5_cut_169 : decode cX5_cut 169 = .ok (.istore 6, 2) := by decide +kernel
theorem dX5_cut_171 : decode cX5_cut 171 = .ok (.iload 5, 2) := by decide +kernel
theorem dX5_cut_173 : decode cX5_cut 173 = .ok (.ifCond .ne 8, 3) := by decide +kernel
theorem dX5_cut_176 : decode cX5_cut 176 = .ok (.iload 6, 2) := by decide +kernel
theorem dX5_cut_178 : decode cX5_cut 178 = .ok (.ifCond .eq 5, 3) := by decide +kernel
theorem dX5_cut_181 : decode cX5_cut 181 = .ok (.iconst 0, 1) := by decide +kernel
theorem dX5_cut_182 : decode cX5_cut 182 = .ok (.istore_n 1, 1) := by decide +kernel
theorem dX5_cut_183 : decode cX5_cut 183 = .ok (.iload 5, 2) := by decide +kernel
theorem dX5_cut_185 : decode cX5_cut 185 = .ok (.ifCond .eq 6, 3) := by decide +kernel
theorem dX5_cut_188 : decode cX5_cut 188 = .ok (.goto 52, 3) := by decide +kernel
theorem dX5_cut_191 : decode cX5_cut 191 = .ok (.iload_n 1, 1) := by decide +kernel
theorem dX5_cut_192 : decode cX5_cut 192 = .ok (.ifCond .ne 23, 3) := by decide +kernel
theorem dX5_cut_195 : decode cX5_cut 195 = .ok (.aload_n 0, 1) := by decide +kernel
theorem dX5_cut_196 : decode cX5_cut 196 = .ok (.getfield 16, 3) := by decide +kernel
theorem dX5_cut_199 : decode cX5_cut 199 = .ok (.aload_n 0, 1) := by decide +kernel
theorem dX5_cut_200 : decode cX5_cut 200 = .ok (.getfield 56, 3) := by decide +kernel
theorem dX5_cut_203 : decode cX5_cut 203 = .ok (.iload_n 3, 1) := by decide +kernel
theorem dX5_cut_204 : decode cX5_cut 204 = .ok (.iastore, 1) := by decide +kernel
theorem dX5_cut_205 : decode cX5_cut 205 = .ok (.aload_n 0, 1) := by decide +kernel
theorem dX5_cut_206 : decode cX5_cut 206 = .ok (.dup, 1) := by decide +kernel
theorem dX5_cut_207 : decode cX5_cut 207 = .ok (.getfield 56, 3) := by decide +kernel
theorem dX5_cut_210 : decode cX5_cut 210 = .ok (.iconst 1, 1) := by decide +kernel
theorem dX5_cut_211 : decode cX5_cut 211 = .ok (.iadd, 1) := by decide +kernel
theorem dX5_cut_212 : decode cX5_cut 212 = .ok (.putfield 56, 3) := by decide +kernel
theorem dX5_cut_215 : decode cX5_cut 215 = .ok (.aload_n 0, 1) := by decide +kernel
theorem dX5_cut_216 : decode cX5_cut 216 = .ok (.getfield 20, 3) := by decide +kernel
theorem dX5_cut_219 : decode cX5_cut 219 = .ok (.aload_n 0, 1) := by decide +kernel
theorem dX5_cut_220 : decode cX5_cut 220 = .ok (.getfield 56, 3) := by decide +kernel
theorem dX5_cut_223 : decode cX5_cut 223 = .ok (.iconst 1, 1) := by decide +kernel
theorem dX5_cut_224 : decode cX5_cut 224 = .ok (.isub, 1) := by decide +kernel
theorem dX5_cut_225 : decode cX5_cut 225 = .ok (.iload_n 3, 1) := by decide +kernel
theorem dX5_cut_226 : decode cX5_cut 226 = .ok (.iconst 1, 1) := by decide +kernel
theorem dX5_cut_227 : decode cX5_cut 227 = .ok (.iadd, 1) := by decide +kernel
theorem dX5_cut_228 : decode cX5_cut 228 = .ok (.iastore, 1) := by decide +kernel
theorem dX5_cut_229 : decode cX5_cut 229 = .ok (.iload 6, 2) := by decide +kernel
theorem dX5_cut_231 : decode cX5_cut 231 = .ok (.ifCond .ne 7, 3) := by decide +kernel
theorem dX5_cut_234 : decode cX5_cut 234 = .ok (.iconst 1, 1) := by decide +kernel
theorem dX5_cut_235 : decode cX5_cut 235 = .ok (.goto 4, 3) := by decide +kernel
theorem dX5_cut_238 : decode cX5_cut 238 = .ok (.iconst 0, 1) := by decide +kernel
theorem dX5_cut_239 : decode cX5_cut 239 = .ok (.istore_n 1, 1) := by decide +kernel
theorem dX5_cut_240 : decode cX5_cut 240 = .ok (.iinc 3 1, 3) := by decide +kernel
theorem dX5_cut_243 : decode cX5_cut 243 = .ok (.goto (-232), 3) := by decide +kernel
theorem dX5_cut_246 : decode cX5_cut 246 = .ok (.iconst 1, 1) := by decide +kernel
theorem dX5_cut_247 : decode cX5_cut 247 = .ok (.ireturn, 1) := by decide +kernel
set_option maxRecDepth 20000 in
theorem ggX5_is_J0_length_8abf5 : GoodIn wsX5_is wsJ0_length_8abf5 := goodIn_r _ [9, 10, 11, 12, 13, 8, 14, 15, 16] (by decide +kernel) (by decide +kernel)
set_option maxRecDepth 20000 in
theorem gX5_is_J0_length_8abf5 : GoodIn wsX5_is (wsV RX5 59 RJ0 yJ0_length_8abf5 wsJ0_length_8abf5) := goodIn_app (goodIn_of _ (by decide +kernel)) ggX5_is_J0_length_8abf5
set_option maxRecDepth 20000 in
theorem ggX5_is_J0_charAt_5068e : GoodIn wsX5_is wsJ0_charAt_5068e := goodIn_r _ [20, 10, 21, 22, 23, 8, 24, 15, 16, 25, 26, 27, 28, 29, 30, 31, 32, 33, 34, 35, 36, 37, 38, 39, 40, 41, 42, 43, 44, 45, 46, 47, 48, 49, 50, 51, 52, 53] (by decide +kernel) (by decide +kernel)
set_option maxRecDepth 20000 in
theorem gX5_is_J0_charAt_5068e : GoodIn wsX5_is (wsV RX5 65 RJ0 yJ0_charAt_5068e wsJ0_charAt_5068e) := goodIn_app (goodIn_of _ (by decide +kernel)) ggX5_is_J0_charAt_5068e
theorem dX5_is_0 : decode cX5_is 0 = .ok (.iload_n 1, 1) := by decide +kernel
theorem dX5_is_1 : decode cX5_is 1 = .ok (.aload_n 0, 1) := by decide +kernel
theorem dX5_is_2 : decode cX5_is 2 = .ok (.getfield 56, 3) := by decide +kernel
theorem dX5_is_5 : decode cX5_is 5 = .ok (.if_icmp .ge 23, 3) := by decide +kernel
theorem dX5_is_8 : decode cX5_is 8 = .ok (.aload_n 0, 1) := by decide +kernel
theorem dX5_is_9 : decode cX5_is 9 = .ok (.getfield 20, 3) := by decide +kernel
theorem dX5_is_12 : decode cX5_is 12 = .ok (.iload_n 1, 1) := by decide +kernel
theorem dX5_is_13 : decode cX5_is 13 = .ok (.iaload, 1) := by decide +kernel
theorem dX5_is_14 : decode cX5_is 14 = .ok (.aload_n 0, 1) := by decide +kernel
theorem dX5_is_15 : decode cX5_is 15 = .ok (.getfield 16, 3) := by decide +kernel
theorem dX5_is_18 : decode cX5_is 18 = .ok (.iload_n 1, 1) := by decide +kernel
theorem dX5_is_19 : decode cX5_is 19 = .ok (.iaload, 1) := by decide +kernel
theorem dX5_is_20 : decode cX5_is 20 = .ok (.isub, 1) := by decide +kernel
theorem dX5_is_21 : decode cX5_is 21 = .ok (.aload_n 2, 1) := by decide +kernel
theorem dX5_is_22 : decode cX5_is 22 = .ok (.invokevirtual 59, 3) := by decide +kernel
theorem dX5_is_25 : decode cX5_is 25 = .ok (.if_icmp .eq 5, 3) := by decide +kernel
theorem dX5_is_28 : decode cX5_is 28 = .ok (.iconst 0, 1) := by decide +kernel
theorem dX5_is_29 : decode cX5_is 29 = .ok (.ireturn, 1) := by decide +kernel
theorem dX5_is_30 : decode cX5_is 30 = .ok (.iconst 0, 1) := by decide +kernel
theorem dX5_is_31 : decode cX5_is 31 = .ok (.istore_n 3, 1) := by decide +kernel
theorem dX5_is_32 : decode cX5_is 32 = .ok (.iload_n 3, 1) := by decide +kernel
theorem dX5_is_33 : decode cX5_is 33 = .ok (.aload_n 2, 1) := by decide +kernel
theorem dX5_is_34 : decode cX5_is 34 = .ok (.invokevirtual 59, 3) := by decide +kernel
theorem dX5_is_37 : decode cX5_is 37 = .ok (.if_icmp .ge 32, 3) := by decide +kernel
theorem dX5_is_40 : decode cX5_is 40 = .ok (.aload_n 0, 1) := by decide +kernel
theorem dX5_is_41 : decode cX5_is 41 = .ok (.getfield 13, 3) := by decide +kernel
theorem dX5_is_44 : decode cX5_is 44 = .ok (.aload_n 0, 1) := by decide +kernel
theorem dX5_is_45 : decode cX5_is 45 = .ok (.getfield 16, 3) := by decide +kernel
theorem dX5_is_48 : decode cX5_is 48 = .ok (.iload_n 1, 1) := by decide +kernel
theorem dX5_is_49 : decode cX5_is 49 = .ok (.iaload, 1) := by decide +kernel
theorem dX5_is_50 : decode cX5_is 50 = .ok (.iload_n 3, 1) := by decide +kernel
theorem dX5_is_51 : decode cX5_is 51 = .ok (.iadd, 1) := by decide +kernel
theorem dX5_is_52 : decode cX5_is 52 = .ok (.baload, 1) := by decide +kernel
theorem dX5_is_53 : decode cX5_is 53 = .ok (.aload_n 2, 1) := by decide +kernel
theorem dX5_is_54 : decode cX5_is 54 = .ok (.iload_n 3, 1) := by decide +kernel
theorem dX5_is_55 : decode cX5_is 55 = .ok (.invokevirtual 65, 3) := by decide +kernel
theorem dX5_is_58 : decode cX5_is 58 = .ok (.if_icmp .eq 5, 3) := by decide +kernel
theorem dX5_is_61 : decode cX5_is 61 = .ok (.iconst 0, 1) := by decide +kernel
theorem dX5_is_62 : decode cX5_is 62 = .ok (.ireturn, 1) := by decide +kernel
theorem dX5_is_63 : decode cX5_is 63 = .ok (.iinc 3 1, 3) := by decide +kernel
theorem dX5_is_66 : decode cX5_is 66 = .ok (.goto (-34), 3) := by decide +kernel
theorem dX5_is_69 : decode cX5_is 69 = .ok (.iconst 1, 1) := by decide +kernel
theorem dX5_is_70 : decode cX5_is 70 = .ok (.ireturn, 1) := by decide +kernel
set_option maxRecDepth 20000 in
theorem ggX5_among_J0_length_8abf5 : GoodIn wsX5_among wsJ0_length_8abf5 := goodIn_r _ [6, 7, 8, 9, 10, 5, 11, 12, 13] (by decide +kernel) (by decide +kernel)
set_option maxRecDepth 20000 in
theorem gX5_among_J0_length_8abf5 : GoodIn wsX5_among (wsV RX5 59 RJ0 yJ0_length_8abf5 wsJ0_length_8abf5) := goodIn_app (goodIn_of _ (by decide +kernel)) ggX5_among_J0_length_8abf5
set_option maxRecDepth 20000 in
theorem ggX5_among_J0_charAt_5068e : GoodIn wsX5_among wsJ0_charAt_5068e := goodIn_r _ [17, 7, 18, 19, 20, 5, 21, 12, 13, 22, 23, 24, 25, 26, 27, 28, 29, 30, 31, 32, 33, 34, 35, 36, 37, 38, 39, 40, 41, 42, 43, 44, 45, 46, 47, 48, 49, 50] (by decide +kernel) (by decide +kernel)
set_option maxRecDepth 20000 in
theorem gX5_among_J0_charAt_5068e : GoodIn wsX5_among (wsV RX5 65 RJ0 yJ0_charAt_5068e wsJ0_charAt_5068e) := goodIn_app (goodIn_of _ (by decide +kernel)) ggX5_among_J0_charAt_5068e
theorem dX5_among_0 : decode cX5_among 0 = .ok (.iconst 0, 1) := by decide +kernel
theorem dX5_among_1 : decode cX5_among 1 = .ok (.istore 4, 2) := by decide +kernel
theorem dX5_among_3 : decode cX5_among 3 = .ok (.iconst 1, 1) := by decide +kernel
theorem dX5_among_4 : decode cX5_among 4 = .ok (.istore 5, 2) := by decide +kernel
theorem dX5_among_6 : decode cX5_among 6 = .ok (.iload 5, 2) := by decide +kernel
theorem dX5_among_8 : decode cX5_among 8 = .ok (.aload_n 3, 1) := by decide +kernel
theorem dX5_among_9 : decode cX5_among 9 = .ok (.invokevirtual 59, 3) := by decide +kernel
theorem dX5_among_12 : decode cX5_among 12 = .ok (.if_icmp .ge 112, 3) := by decide +kernel
theorem dX5_among_15 : decode cX5_among 15 = .ok (.iload 5, 2) := by decide +kernel
theorem dX5_among_17 : decode cX5_among 17 = .ok (.istore 6, 2) := by decide +kernel
theorem dX5_among_19 : decode cX5_among 19 = .ok (.aload_n 3, 1) := by decide +kernel
theorem dX5_among_20 : decode cX5_among 20 = .ok (.iload 6, 2) := by decide +kernel
theorem dX5_among_22 : decode cX5_among 22 = .ok (.invokevirtual 65, 3) := by decide +kernel
theorem dX5_among_25 : decode cX5_among 25 = .ok (.bipush 32, 2) := by decide +kernel
theorem dX5_among_27 : decode cX5_among 27 = .ok (.if_icmp .eq 9, 3) := by decide +kernel
theorem dX5_among_30 : decode cX5_among 30 = .ok (.iinc 6 1, 3) := by decide +kernel
theorem dX5_among_33 : decode cX5_among 33 = .ok (.goto (-14), 3) := by decide +kernel
theorem dX5_among_36 : decode cX5_among 36 = .ok (.iload 6, 2) := by decide +kernel
theorem dX5_among_38 : decode cX5_among 38 = .ok (.iload 5, 2) := by decide +kernel
theorem dX5_among_40 : decode cX5_among 40 = .ok (.isub, 1) := by decide +kernel
theorem dX5_among_41 : decode cX5_among 41 = .ok (.iload_n 2, 1) := by decide +kernel
theorem dX5_among_42 : decode cX5_among 42 = .ok (.iload_n 1, 1) := by decide +kernel
theorem dX5_among_43 : decode cX5_among 43 = .ok (.isub, 1) := by decide +kernel
theorem dX5_among_44 : decode cX5_among 44 = .ok (.if_icmp .ne 7, 3) := by decide +kernel
theorem dX5_among_47 : decode cX5_among 47 = .ok (.iconst 1, 1) := by decide +kernel
theorem dX5_among_48 : decode cX5_among 48 = .ok (.goto 4, 3) := by decide +kernel
theorem dX5_among_51 : decode cX5_among 51 = .ok (.iconst 0, 1) := by decide +kernel
theorem dX5_among_52 : decode cX5_among 52 = .ok (.istore 7, 2) := by decide +kernel
theorem dX5_among_54 : decode cX5_among 54 = .ok (.iconst 0, 1) := by decide +kernel
theorem dX5_among_55 : decode cX5_among 55 = .ok (.istore 8, 2) := by decide +kernel
theorem dX5_among_57 : decode cX5_among 57 = .ok (.iload 7, 2) := by decide +kernel
theorem dX5_among_59 : decode cX5_among 59 = .ok (.ifCond .eq 45, 3) := by decide +kernel
theorem dX5_among_62 : decode cX5_among 62 = .ok (.iload 8, 2) := by decide +kernel
theorem dX5_among_64 : decode cX5_among 64 = .ok (.iload_n 2, 1) := by decide +kernel
theorem dX5_among_65 : decode cX5_among 65 = .ok (.iload_n 1, 1) := by decide +kernel
theorem dX5_among_66 : decode cX5_among 66 = .ok (.isub, 1) := by decide +kernel
theorem dX5_among_67 : decode cX5_among 67 = .ok (.if_icmp .ge 37, 3) := by decide +kernel
theorem dX5_among_70 : decode cX5_among 70 = .ok (.aload_n 0, 1) := by decide +kernel
theorem dX5_among_71 : decode cX5_among 71 = .ok (.getfield 13, 3) := by decide +kernel
theorem dX5_among_74 : decode cX5_among 74 = .ok (.iload_n 1, 1) := by decide +kernel
theorem dX5_among_75 : decode cX5_among 75 = .ok (.iload 8, 2) := by decide +kernel
theorem dX5_among_77 : decode cX5_among 77 = .ok (.iadd, 1) := by decide +kernel
theorem dX5_among_78 : decode cX5_among 78 = .ok (.baload, 1) := by decide +kernel
theorem dX5_among_79 : decode cX5_among 79 = .ok (.aload_n 3, 1) := by decide +kernel
theorem dX5_among_80 : decode cX5_among 80 = .ok (.iload 5, 2) := by decide +kernel
theorem dX5_among_82 : decode cX5_among 82 = .ok (.iload 8, 2) := by decide +kernel
theorem dX5_among_84 : decode cX5_among 84 = .ok (.iadd, 1) := by decide +kernel
theorem dX5_among_85 : decode cX5_among 85 = .ok (.invokevirtual 65, 3) := by decide +kernel
theorem dX5_among_88 : decode cX5_among 88 = .ok (.if_icmp .ne 7, 3) := by decide +kernel
theorem dX5_among_91 : decode cX5_among 91 = .ok (.iconst 1, 1) := by decide +kernel
theorem dX5_among_92 : decode cX5_among 92 = .ok (.goto 4, 3) := by decide +kernel
theorem dX5_among_95 : decode cX5_among 95 = .ok (.iconst 0, 1) := by decide +kernel
theorem dX5_among_96 : decode cX5_among 96 = .ok (.istore 7, 2) := by decide +kernel
theorem dX5_among_98 : decode cX5_among 98 = .ok (.iinc 8 1, 3) := by decide +kernel
theorem dX5_among_101 : decode cX5_among 101 = .ok (.goto (-44), 3) := by decide +kernel
theorem dX5_among_104 : decode cX5_among 104 = .ok (.iload 7, 2) := by decide +kernel
theorem dX5_among_106 : decode cX5_among 106 = .ok (.ifCond .eq 6, 3) := by decide +kernel
theorem dX5_among_109 : decode cX5_among 109 = .ok (.iload 4, 2) := by decide +kernel
theorem dX5_among_111 : decode cX5_among 111 = .ok (.ireturn, 1) := by decide +kernel
theorem dX5_among_112 : decode cX5_among 112 = .ok (.iinc 4 1, 3) := by decide +kernel
theorem dX5_among_115 : decode cX5_among 115 = .ok (.iload 6, 2) := by decide +kernel
theorem dX5_among_117 : decode cX5_among 117 = .ok (.iconst 1, 1) := by decide +kernel
theorem dX5_among_118 : decode cX5_among 118 = .ok (.iadd, 1) := by decide +kernel
theorem dX5_among_119 : decode cX5_among 119 = .ok (.istore 5, 2) := by decide +kernel
theorem dX5_among_121 : decode cX5_among 121 = .ok (.goto (-115), 3) := by decide +kernel
theorem dX5_among_124 : decode cX5_among 124 = .ok (.iconst (-1), 1) := by decide +kernel
theorem dX5_among_125 : decode cX5_among 125 = .ok (.ireturn, 1) := by decide +kernel
theorem dX5_isName_0 : decode cX5_isName 0 = .ok (.iload_n 1, 1) := by decide +kernel
theorem dX5_isName_1 : decode cX5_isName 1 = .ok (.iload_n 2, 1) := by decide +kernel
theorem dX5_isName_2 : decode cX5_isName 2 = .ok (.if_icmp .ge 32, 3) := by decide +kernel
theorem dX5_isName_5 : decode cX5_isName 5 = .ok (.iload_n 2, 1) := by decide +kernel
theorem dX5_isName_6 : decode cX5_isName 6 = .ok (.iload_n 1, 1) := by decide +kernel
theorem dX5_isName_7 : decode cX5_isName 7 = .ok (.isub, 1) := by decide +kernel
theorem dX5_isName_8 : decode cX5_isName 8 = .ok (.bipush 24, 2) := by decide +kernel
theorem dX5_isName_10 : decode cX5_isName 10 = .ok (.if_icmp .gt 24, 3) := by decide +kernel
theorem dX5_isName_13 : decode cX5_isName 13 = .ok (.aload_n 0, 1) := by decide +kernel
theorem dX5_isName_14 : decode cX5_isName 14 = .ok (.getfield 13, 3) := by decide +kernel
theorem dX5_isName_17 : decode cX5_isName 17 = .ok (.iload_n 1, 1) := by decide +kernel
theorem dX5_isName_18 : decode cX5_isName 18 = .ok (.baload, 1) := by decide +kernel
theorem dX5_isName_19 : decode cX5_isName 19 = .ok (.iload_n 3, 1) := by decide +kernel
theorem dX5_isName_20 : decode cX5_isName 20 = .ok (.if_icmp .lt 14, 3) := by decide +kernel
theorem dX5_isName_23 : decode cX5_isName 23 = .ok (.aload_n 0, 1) := by decide +kernel
theorem dX5_isName_24 : decode cX5_isName 24 = .ok (.getfield 13, 3) := by decide +kernel
theorem dX5_isName_27 : decode cX5_isName 27 = .ok (.iload_n 1, 1) := by decide +kernel
theorem dX5_isName_28 : decode cX5_isName 28 = .ok (.baload, 1) := by decide +kernel
theorem dX5_isName_29 : decode cX5_isName 29 = .ok (.iload 4, 2) := by decide +kernel
theorem dX5_isName_31 : decode cX5_isName 31 = .ok (.if_icmp .le 5, 3) := by decide +kernel
theorem dX5_isName_34 : decode cX5_isName 34 = .ok (.iconst 0, 1) := by decide +kernel
theorem dX5_isName_35 : decode cX5_isName 35 = .ok (.ireturn, 1) := by decide +kernel
theorem dX5_isName_36 : decode cX5_isName 36 = .ok (.iload_n 1, 1) := by decide +kernel
theorem dX5_isName_37 : decode cX5_isName 37 = .ok (.istore 5, 2) := by decide +kernel
theorem dX5_isName_39 : decode cX5_isName 39 = .ok (.iload 5, 2) := by decide +kernel
theorem dX5_isName_41 : decode cX5_isName 41 = .ok (.iload_n 2, 1) := by decide +kernel
theorem dX5_isName_42 : decode cX5_isName 42 = .ok (.if_icmp .ge 69, 3) := by decide +kernel
theorem dX5_isName_45 : decode cX5_isName 45 = .ok (.aload_n 0, 1) := by decide +kernel
theorem dX5_isName_46 : decode cX5_isName 46 = .ok (.getfield 13, 3) := by decide +kernel
theorem dX5_isName_49 : decode cX5_isName 49 = .ok (.iload 5, 2) := by decide +kernel
theorem dX5_isName_51 : decode cX5_isName 51 = .ok (.baload, 1) := by decide +kernel
theorem dX5_isName_52 : decode cX5_isName 52 = .ok (.istore 6, 2) := by decide +kernel
theorem dX5_isName_54 : decode cX5_isName 54 = .ok (.iload 6, 2) := by decide +kernel
theorem dX5_isName_56 : decode cX5_isName 56 = .ok (.bipush 97, 2) := by decide +kernel
theorem dX5_isName_58 : decode cX5_isName 58 = .ok (.if_icmp .lt 10, 3) := by decide +kernel
theorem dX5_isName_61 : decode cX5_isName 61 = .ok (.iload 6, 2) := by decide +kernel
theorem dX5_isName_63 : decode cX5_isName 63 = .ok (.bipush 122, 2) := by decide +kernel
theorem dX5_isName_65 : decode cX5_isName 65 = .ok (.if_icmp .le 40, 3) := by decide +kernel
theorem dX5_isName_68 : decode cX5_isName 68 = .ok (.iload 6, 2) := by decide +kernel
theorem dX5_isName_70 : decode cX5_isName 70 = .ok (.bipush 65, 2) := by decide +kernel
theorem dX5_isName_72 : decode cX5_isName 72 = .ok (.if_icmp .lt 10, 3) := by decide +kernel
theorem dX5_isName_75 : decode cX5_isName 75 = .ok (.iload 6, 2) := by decide +kernel
theorem dX5_isName_77 : decode cX5_isName 77 = .ok (.bipush 90, 2) := by decide +kernel
theorem dX5_isName_79 : decode cX5_isName 79 = .ok (.if_icmp .le 26, 3) := by decide +kernel
theorem dX5_isName_82 : decode cX5_isName 82 = .ok (.iload 6, 2) := by decide +kernel
theorem dX5_isName_84 : decode cX5_isName 84 = .ok (.bipush 48, 2) := by decide +kernel
theorem dX5_isName_86 : decode cX5_isName 86 = .ok (.if_icmp .lt 10, 3) := by decide +kernel
theorem dX5_isName_89 : decode cX5_isName 89 = .ok (.iload 6, 2) := by decide +kernel
theorem dX5_isName_91 : decode cX5_isName 91 = .ok (.bipush 57, 2) := by decide +kernel
theorem dX5_isName_93 : decode cX5_isName 93 = .ok (.if_icmp .le 12, 3) := by decide +kernel
theorem dX5_isName_96 : decode cX5_isName 96 = .ok (.iload 6, 2) := by decide +kernel
theorem dX5_isName_98 : decode cX5_isName 98 = .ok (.bipush 95, 2) := by decide +kernel
theorem dX5_isName_100 : decode cX5_isName 100 = .ok (.if_icmp .eq 5, 3) := by decide +kernel
theorem dX5_isName_103 : decode cX5_isName 103 = .ok (.iconst 0, 1) := by decide +kernel
theorem dX5_isName_104 : decode cX5_isName 104 = .ok (.ireturn, 1) := by decide +kernel
theorem dX5_isName_105 : decode cX5_isName 105 = .ok (.iinc 5 1, 3) := by decide +kernel
theorem dX5_isName_108 : decode cX5_isName 108 = .ok (.goto (-69), 3) := by decide +kernel
theorem dX5_isName_111 : decode cX5_isName 111 = .ok (.iconst 1, 1) := by decide +kernel
theorem dX5_isName_112 : decode cX5_isName 112 = .ok (.ireturn, 1) := by decide +kernel
set_option maxRecDepth 20000 in
theorem ggX5_isSmallName_X5_isName : GoodIn wsX5_isSmallName wsX5_isName := goodIn_r _ [8, 9, 10, 11, 12, 13, 14, 15, 16, 17, 18, 19, 20, 21, 22, 23, 24, 25, 26, 27] (by decide +kernel) (by decide +kernel)
set_option maxRecDepth 20000 in
theorem gX5_isSmallName_X5_isName : GoodIn wsX5_isSmallName (wsV RX5 69 RX5 yX5_isName wsX5_isName) := goodIn_app (goodIn_of _ (by decide +kernel)) ggX5_isSmallName_X5_isName
theorem dX5_isSmallName_0 : decode cX5_isSmallName 0 = .ok (.iload_n 1, 1) := by decide +kernel
theorem dX5_isSmallName_1 : decode cX5_isSmallName 1 = .ok (.aload_n 0, 1) := by decide +kernel
theorem dX5_isSmallName_2 : decode cX5_isSmallName 2 = .ok (.getfield 56, 3) := by decide +kernel
theorem dX5_isSmallName_5 : decode cX5_isSmallName 5 = .ok (.if_icmp .ge 30, 3) := by decide +kernel
theorem dX5_isSmallName_8 : decode cX5_isSmallName 8 = .ok (.aload_n 0, 1) := by decide +kernel
theorem dX5_isSmallName_9 : decode cX5_isSmallName 9 = .ok (.aload_n 0, 1) := by decide +kernel
theorem dX5_isSmallName_10 : decode cX5_isSmallName 10 = .ok (.getfield 16, 3) := by decide +kernel
theorem dX5_isSmallName_13 : decode cX5_isSmallName 13 = .ok (.iload_n 1, 1) := by decide +kernel
theorem dX5_isSmallName_14 : decode cX5_isSmallName 14 = .ok (.iaload, 1) := by decide +kernel
theorem dX5_isSmallName_15 : decode cX5_isSmallName 15 = .ok (.aload_n 0, 1) := by decide +kernel
theorem dX5_isSmallName_16 : decode cX5_isSmallName 16 = .ok (.getfield 20, 3) := by decide +kernel
theorem dX5_isSmallName_19 : decode cX5_isSmallName 19 = .ok (.iload_n 1, 1) := by decide +kernel
theorem dX5_isSmallName_20 : decode cX5_isSmallName 20 = .ok (.iaload, 1) := by decide +kernel
theorem dX5_isSmallName_21 : decode cX5_isSmallName 21 = .ok (.bipush 97, 2) := by decide +kernel
theorem dX5_isSmallName_23 : decode cX5_isSmallName 23 = .ok (.bipush 122, 2) := by decide +kernel
theorem dX5_isSmallName_25 : decode cX5_isSmallName 25 = .ok (.invokevirtual 69, 3) := by decide +kernel
theorem dX5_isSmallName_28 : decode cX5_isSmallName 28 = .ok (.ifCond .eq 7, 3) := by decide +kernel
theorem dX5_isSmallName_31 : decode cX5_isSmallName 31 = .ok (.iconst 1, 1) := by decide +kernel
theorem dX5_isSmallName_32 : decode cX5_isSmallName 32 = .ok (.goto 4, 3) := by decide +kernel
theorem dX5_isSmallName_35 : decode cX5_isSmallName 35 = .ok (.iconst 0, 1) := by decide +kernel
theorem dX5_isSmallName_36 : decode cX5_isSmallName 36 = .ok (.ireturn, 1) := by decide +kernel
set_option maxRecDepth 20000 in
theorem ggX5_isClassName_X5_isName : GoodIn wsX5_isClassName wsX5_isName := goodIn_r _ [8, 9, 10, 11, 12, 13, 14, 15, 16, 17, 18, 19, 20, 21, 22, 23, 24, 25, 26, 27] (by decide +kernel) (by decide +kernel)
set_option maxRecDepth 20000 in
theorem gX5_isClassName_X5_isName : GoodIn wsX5_isClassName (wsV RX5 69 RX5 yX5_isName wsX5_isName) := goodIn_app (goodIn_of _ (by decide +kernel)) ggX5_isClassName_X5_isName
theorem dX5_isClassName_0 : decode cX5_isClassName 0 = .ok (.iload_n 1, 1) := by decide +kernel
theorem dX5_isClassName_1 : decode cX5_isClassName 1 = .ok (.aload_n 0, 1) := by decide +kernel
theorem dX5_isClassName_2 : decode cX5_isClassName 2 = .ok (.getfield 56, 3) := by decide +kernel
theorem dX5_isClassName_5 : decode cX5_isClassName 5 = .ok (.if_icmp .ge 30, 3) := by decide +kernel
theorem dX5_isClassName_8 : decode cX5_isClassName 8 = .ok (.aload_n 0, 1) := by decide +kernel
theorem dX5_isClassName_9 : decode cX5_isClassName 9 = .ok (.aload_n 0, 1) := by decide +kernel
theorem dX5_isClassName_10 : decode cX5_isClassName 10 = .ok (.getfield 16, 3) := by decide +kernel
theorem dX5_isClassName_13 : decode cX5_isClassName 13 = .ok (.iload_n 1, 1) := by decide +kernel
theorem dX5_isClassName_14 : decode cX5_isClassName 14 = .ok (.iaload, 1) := by decide +kernel
theorem dX5_isClassName_15 : decode cX5_isClassName 15 = .ok (.aload_n 0, 1) := by decide +kernel
theorem dX5_isClassName_16 : decode cX5_isClassName 16 = .ok (.getfield 20, 3) := by decide +kernel
theorem dX5_isClassName_19 : decode cX5_isClassName 19 = .ok (.iload_n 1, 1) := by decide +kernel
theorem dX5_isClassName_20 : decode cX5_isClassName 20 = .ok (.iaload, 1) := by decide +kernel
theorem dX5_isClassName_21 : decode cX5_isClassName 21 = .ok (.bipush 65, 2) := by decide +kernel
theorem dX5_isClassName_23 : decode cX5_isClassName 23 = .ok (.bipush 90, 2) := by decide +kernel
theorem dX5_isClassName_25 : decode cX5_isClassName 25 = .ok (.invokevirtual 69, 3) := by decide +kernel
theorem dX5_isClassName_28 : decode cX5_isClassName 28 = .ok (.ifCond .eq 7, 3) := by decide +kernel
theorem dX5_isClassName_31 : decode cX5_isClassName 31 = .ok (.iconst 1, 1) := by decide +kernel
theorem dX5_isClassName_32 : decode cX5_isClassName 32 = .ok (.goto 4, 3) := by decide +kernel
theorem dX5_isClassName_35 : decode cX5_isClassName 35 = .ok (.iconst 0, 1) := by decide +kernel
theorem dX5_isClassName_36 : decode cX5_isClassName 36 = .ok (.ireturn, 1) := by decide +kernel
theorem dX5_isArray_0 : decode cX5_isArray 0 = .ok (.aload_n 0, 1) := by decide +kernel
theorem dX5_isArray_1 : decode cX5_isArray 1 = .ok (.getfield 20, 3) := by decide +kernel
theorem dX5_isArray_4 : decode cX5_isArray 4 = .ok (.iload_n 1, 1) := by decide +kernel
theorem dX5_isArray_5 : decode cX5_isArray 5 = .ok (.iaload, 1) := by decide +kernel
theorem dX5_isArray_6 : decode cX5_isArray 6 = .ok (.aload_n 0, 1) := by decide +kernel
theorem dX5_isArray_7 : decode cX5_isArray 7 = .ok (.getfield 16, 3) := by decide +kernel
theorem dX5_isArray_10 : decode cX5_isArray 10 = .ok (.iload_n 1, 1) := by decide +kernel
theorem dX5_isArray_11 : decode cX5_isArray 11 = .ok (.iaload, 1) := by decide +kernel
theorem dX5_isArray_12 : decode cX5_isArray 12 = .ok (.isub, 1) := by decide +kernel
theorem dX5_isArray_13 : decode cX5_isArray 13 = .ok (.iconst 2, 1) := by decide +kernel
theorem dX5_isArray_14 : decode cX5_isArray 14 = .ok (.if_icmp .le 43, 3) := by decide +kernel
theorem dX5_isArray_17 : decode cX5_isArray 17 = .ok (.aload_n 0, 1) := by decide +kernel
theorem dX5_isArray_18 : decode cX5_isArray 18 = .ok (.getfield 13, 3) := by decide +kernel
theorem dX5_isArray_21 : decode cX5_isArray 21 = .ok (.aload_n 0, 1) := by decide +kernel
theorem dX5_isArray_22 : decode cX5_isArray 22 = .ok (.getfield 20, 3) := by decide +kernel
theorem dX5_isArray_25 : decode cX5_isArray 25 = .ok (.iload_n 1, 1) := by decide +kernel
theorem dX5_isArray_26 : decode cX5_isArray 26 = .ok (.iaload, 1) := by decide +kernel
theorem dX5_isArray_27 : decode cX5_isArray 27 = .ok (.iconst 2, 1) := by decide +kernel
theorem dX5_isArray_28 : decode cX5_isArray 28 = .ok (.isub, 1) := by decide +kernel
theorem dX5_isArray_29 : decode cX5_isArray 29 = .ok (.baload, 1) := by decide +kernel
theorem dX5_isArray_30 : decode cX5_isArray 30 = .ok (.bipush 91, 2) := by decide +kernel
theorem dX5_isArray_32 : decode cX5_isArray 32 = .ok (.if_icmp .ne 25, 3) := by decide +kernel
theorem dX5_isArray_35 : decode cX5_isArray 35 = .ok (.aload_n 0, 1) := by decide +kernel
theorem dX5_isArray_36 : decode cX5_isArray 36 = .ok (.getfield 13, 3) := by decide +kernel
theorem dX5_isArray_39 : decode cX5_isArray 39 = .ok (.aload_n 0, 1) := by decide +kernel
theorem dX5_isArray_40 : decode cX5_isArray 40 = .ok (.getfield 20, 3) := by decide +kernel
theorem dX5_isArray_43 : decode cX5_isArray 43 = .ok (.iload_n 1, 1) := by decide +kernel
theorem dX5_isArray_44 : decode cX5_isArray 44 = .ok (.iaload, 1) := by decide +kernel
theorem dX5_isArray_45 : decode cX5_isArray 45 = .ok (.iconst 1, 1) := by decide +kernel
theorem dX5_isArray_46 : decode cX5_isArray 46 = .ok (.isub, 1) := by decide +kernel
theorem dX5_isArray_47 : decode cX5_isArray 47 = .ok (.baload, 1) := by decide +kernel
theorem dX5_isArray_48 : decode cX5_isArray 48 = .ok (.bipush 93, 2) := by decide +kernel
theorem dX5_isArray_50 : decode cX5_isArray 50 = .ok (.if_icmp .ne 7, 3) := by decide +kernel
theorem dX5_isArray_53 : decode cX5_isArray 53 = .ok (.iconst 1, 1) := by decide +kernel
theorem dX5_isArray_54 : decode cX5_isArray 54 = .ok (.goto 4, 3) := by decide +kernel
theorem dX5_isArray_57 : decode cX5_isArray 57 = .ok (.iconst 0, 1) := by decide +kernel
theorem dX5_isArray_58 : decode cX5_isArray 58 = .ok (.ireturn, 1) := by decide +kernel
set_option maxRecDepth 20000 in
theorem ggX5_isType_X5_isArray : GoodIn wsX5_isType wsX5_isArray := goodIn_r _ [9, 2, 3, 4, 14, 15, 16, 17, 18, 19, 20, 21, 22, 23, 24, 25, 26, 27, 28, 29, 30, 31] (by decide +kernel) (by decide +kernel)
set_option maxRecDepth 20000 in
theorem gX5_isType_X5_isArray : GoodIn wsX5_isType (wsV RX5 73 RX5 yX5_isArray wsX5_isArray) := goodIn_app (goodIn_of _ (by decide +kernel)) ggX5_isType_X5_isArray
set_option maxRecDepth 20000 in
theorem ggX5_isType_X5_isName : GoodIn wsX5_isType wsX5_isName := goodIn_r _ [13, 4, 14, 15, 16, 17, 18, 19, 20, 21, 22, 23, 24, 25, 26, 27, 28, 29, 30, 31] (by decide +kernel) (by decide +kernel)
set_option maxRecDepth 20000 in
theorem gX5_isType_X5_isName : GoodIn wsX5_isType (wsV RX5 69 RX5 yX5_isName wsX5_isName) := goodIn_app (goodIn_of _ (by decide +kernel)) ggX5_isType_X5_isName
theorem dX5_isType_0 : decode cX5_isType 0 = .ok (.iload_n 1, 1) := by decide +kernel
theorem dX5_isType_1 : decode cX5_isType 1 = .ok (.aload_n 0, 1) := by decide +kernel
theorem dX5_isType_2 : decode cX5_isType 2 = .ok (.getfield 56, 3) := by decide +kernel
theorem dX5_isType_5 : decode cX5_isType 5 = .ok (.if_icmp .lt 5, 3) := by decide +kernel
theorem dX5_isType_8 : decode cX5_isType 8 = .ok (.iconst 0, 1) := by decide +kernel
theorem dX5_isType_9 : decode cX5_isType 9 = .ok (.ireturn, 1) := by decide +kernel
theorem dX5_isType_10 : decode cX5_isType 10 = .ok (.aload_n 0, 1) := by decide +kernel
theorem dX5_isType_11 : decode cX5_isType 11 = .ok (.iload_n 1, 1) := by decide +kernel
theorem dX5_isType_12 : decode cX5_isType 12 = .ok (.invokevirtual 73, 3) := by decide +kernel
theorem dX5_isType_15 : decode cX5_isType 15 = .ok (.ifCond .eq 14, 3) := by decide +kernel
theorem dX5_isType_18 : decode cX5_isType 18 = .ok (.aload_n 0, 1) := by decide +kernel
theorem dX5_isType_19 : decode cX5_isType 19 = .ok (.getfield 20, 3) := by decide +kernel
theorem dX5_isType_22 : decode cX5_isType 22 = .ok (.iload_n 1, 1) := by decide +kernel
theorem dX5_isType_23 : decode cX5_isType 23 = .ok (.iaload, 1) := by decide +kernel
theorem dX5_isType_24 : decode cX5_isType 24 = .ok (.iconst 2, 1) := by decide +kernel
theorem dX5_isType_25 : decode cX5_isType 25 = .ok (.isub, 1) := by decide +kernel
theorem dX5_isType_26 : decode cX5_isType 26 = .ok (.goto 9, 3) := by decide +kernel
theorem dX5_isType_29 : decode cX5_isType 29 = .ok (.aload_n 0, 1) := by decide +kernel
theorem dX5_isType_30 : decode cX5_isType 30 = .ok (.getfield 20, 3) := by decide +kernel
theorem dX5_isType_33 : decode cX5_isType 33 = .ok (.iload_n 1, 1) := by decide +kernel
theorem dX5_isType_34 : decode cX5_isType 34 = .ok (.iaload, 1) := by decide +kernel
theorem dX5_isType_35 : decode cX5_isType 35 = .ok (.istore_n 2, 1) := by decide +kernel
theorem dX5_isType_36 : decode cX5_isType 36 = .ok (.iload_n 2, 1) := by decide +kernel
theorem dX5_isType_37 : decode cX5_isType 37 = .ok (.aload_n 0, 1) := by decide +kernel
theorem dX5_isType_38 : decode cX5_isType 38 = .ok (.getfield 16, 3) := by decide +kernel
theorem dX5_isType_41 : decode cX5_isType 41 = .ok (.iload_n 1, 1) := by decide +kernel
theorem dX5_isType_42 : decode cX5_isType 42 = .ok (.iaload, 1) := by decide +kernel
theorem dX5_isType_43 : decode cX5_isType 43 = .ok (.isub, 1) := by decide +kernel
theorem dX5_isType_44 : decode cX5_isType 44 = .ok (.iconst 3, 1) := by decide +kernel
theorem dX5_isType_45 : decode cX5_isType 45 = .ok (.if_icmp .ne 46, 3) := by decide +kernel
theorem dX5_isType_48 : decode cX5_isType 48 = .ok (.aload_n 0, 1) := by decide +kernel
theorem dX5_isType_49 : decode cX5_isType 49 = .ok (.getfield 13, 3) := by decide +kernel
theorem dX5_isType_52 : decode cX5_isType 52 = .ok (.iload_n 2, 1) := by decide +kernel
theorem dX5_isType_53 : decode cX5_isType 53 = .ok (.iconst 3, 1) := by decide +kernel
theorem dX5_isType_54 : decode cX5_isType 54 = .ok (.isub, 1) := by decide +kernel
theorem dX5_isType_55 : decode cX5_isType 55 = .ok (.baload, 1) := by decide +kernel
theorem dX5_isType_56 : decode cX5_isType 56 = .ok (.bipush 105, 2) := by decide +kernel
theorem dX5_isType_58 : decode cX5_isType 58 = .ok (.if_icmp .ne 33, 3) := by decide +kernel
theorem dX5_isType_61 : decode cX5_isType 61 = .ok (.aload_n 0, 1) := by decide +kernel
theorem dX5_isType_62 : decode cX5_isType 62 = .ok (.getfield 13, 3) := by decide +kernel
theorem dX5_isType_65 : decode cX5_isType 65 = .ok (.iload_n 2, 1) := by decide +kernel
theorem dX5_isType_66 : decode cX5_isType 66 = .ok (.iconst 2, 1) := by decide +kernel
theorem dX5_isType_67 : decode cX5_isType 67 = .ok (.isub, 1) := by decide +kernel
theorem dX5_isType_68 : decode cX5_isType 68 = .ok (.baload, 1) := by decide +kernel
theorem dX5_isType_69 : decode cX5_isType 69 = .ok (.bipush 110, 2) := by decide +kernel
theorem dX5_isType_71 : decode cX5_isType 71 = .ok (.if_icmp .ne 20, 3) := by decide +kernel
theorem dX5_isType_74 : decode cX5_isType 74 = .ok (.aload_n 0, 1) := by decide +kernel
theorem dX5_isType_75 : decode cX5_isType 75 = .ok (.getfield 13, 3) := by decide +kernel
theorem dX5_isType_78 : decode cX5_isType 78 = .ok (.iload_n 2, 1) := by decide +kernel
theorem dX5_isType_79 : decode cX5_isType 79 = .ok (.iconst 1, 1) := by decide +kernel
