set_option maxRecDepth 20000 in
theorem ggX11_init_X5_init : GoodIn wsX11_init wsX5_init := goodIn_r _ [26, 27, 2, 3, 28, 29, 100, 101] (by decide +kernel) (by decide +kernel)
set_option maxRecDepth 20000 in
theorem gX11_init_X5_init_n9 : GoodIn wsX11_init (wsX5_init) := ggX11_init_X5_init
set_option maxRecDepth 20000 in
theorem ggX11_init_X2_init : GoodIn wsX11_init wsX2_init := goodIn_r _ [31, 32, 2, 3, 33, 34, 35, 36, 37, 38, 39, 40, 41, 42, 43, 44, 45, 46, 47, 48, 28, 49, 50, 51, 52, 53, 54, 55, 56, 57, 58, 59, 60, 61, 62, 63, 64, 65, 66, 67, 68, 69, 70, 71, 111, 112, 113, 114, 115, 116, 117, 118, 119, 120, 121, 122, 123, 124, 125, 126, 127, 128] (by decide +kernel) (by decide +kernel)
set_option maxRecDepth 20000 in
theorem gX11_init_X2_init_n18 : GoodIn wsX11_init (wsX2_init) := ggX11_init_X2_init
set_option maxRecDepth 20000 in
theorem ggX11_init_X9_init : GoodIn wsX11_init wsX9_init := goodIn_r _ [73, 74, 2, 3, 28, 75, 76, 77, 78, 79, 80, 81, 82, 129, 130, 131, 132, 133, 134] (by decide +kernel) (by decide +kernel)
set_option maxRecDepth 20000 in
theorem gX11_init_X9_init_n28 : GoodIn wsX11_init (wsX9_init) := ggX11_init_X9_init
set_option maxRecDepth 20000 in
theorem ggX11_init_X6_init : GoodIn wsX11_init wsX6_init := goodIn_r _ [84, 85, 2, 3, 86, 28, 87, 88, 89, 135, 136, 137, 138, 139, 140] (by decide +kernel) (by decide +kernel)
set_option maxRecDepth 20000 in
theorem gX11_init_X6_init_n35 : GoodIn wsX11_init (wsX6_init) := ggX11_init_X6_init
set_option maxRecDepth 20000 in
theorem ggX11_init_X8_init : GoodIn wsX11_init wsX8_init := goodIn_r _ [91, 92, 2, 3, 93, 94, 95, 96, 97, 9, 10, 98, 99, 30, 31, 32, 33, 34, 35, 36, 37, 38, 39, 40, 41, 42, 43, 44, 45, 46, 47, 48, 28, 49, 50, 51, 52, 53, 54, 55, 56, 57, 58, 59, 60, 61, 62, 63, 64, 65, 66, 67, 68, 69, 70, 71, 141, 142, 143, 144, 145, 146, 147, 148, 111, 112, 113, 114, 115, 116, 117, 118, 119, 120, 121, 122, 123, 124, 125, 126, 127, 128] (by decide +kernel) (by decide +kernel)
set_option maxRecDepth 20000 in
theorem gX11_init_X8_init_n42 : GoodIn wsX11_init (wsX8_init) := ggX11_init_X8_init
theorem dX11_init_0 : decode cX11_init 0 = .ok (.aload_n 0, 1) := by decide +kernel
theorem dX11_init_1 : decode cX11_init 1 = .ok (.invokespecial 1, 3) := by decide +kernel
theorem dX11_init_4 : decode cX11_init 4 = .ok (.aload_n 0, 1) := by decide +kernel
theorem dX11_init_5 : decode cX11_init 5 = .ok (.new 7, 3) := by decide +kernel
theorem dX11_init_8 : decode cX11_init 8 = .ok (.dup, 1) := by decide +kernel
theorem dX11_init_9 : decode cX11_init 9 = .ok (.invokespecial 9, 3) := by decide +kernel
theorem dX11_init_12 : decode cX11_init 12 = .ok (.putfield 10, 3) := by decide +kernel
theorem dX11_init_15 : decode cX11_init 15 = .ok (.aload_n 0, 1) := by decide +kernel
theorem dX11_init_16 : decode cX11_init 16 = .ok (.new 16, 3) := by decide +kernel
theorem dX11_init_19 : decode cX11_init 19 = .ok (.dup, 1) := by decide +kernel
theorem dX11_init_20 : decode cX11_init 20 = .ok (.invokespecial 18, 3) := by decide +kernel
theorem dX11_init_23 : decode cX11_init 23 = .ok (.putfield 19, 3) := by decide +kernel
theorem dX11_init_26 : decode cX11_init 26 = .ok (.aload_n 0, 1) := by decide +kernel
theorem dX11_init_27 : decode cX11_init 27 = .ok (.new 16, 3) := by decide +kernel
theorem dX11_init_30 : decode cX11_init 30 = .ok (.dup, 1) := by decide +kernel
theorem dX11_init_31 : decode cX11_init 31 = .ok (.invokespecial 18, 3) := by decide +kernel
theorem dX11_init_34 : decode cX11_init 34 = .ok (.putfield 23, 3) := by decide +kernel
theorem dX11_init_37 : decode cX11_init 37 = .ok (.aload_n 0, 1) := by decide +kernel
theorem dX11_init_38 : decode cX11_init 38 = .ok (.new 26, 3) := by decide +kernel
theorem dX11_init_41 : decode cX11_init 41 = .ok (.dup, 1) := by decide +kernel
theorem dX11_init_42 : decode cX11_init 42 = .ok (.invokespecial 28, 3) := by decide +kernel
theorem dX11_init_45 : decode cX11_init 45 = .ok (.putfield 29, 3) := by decide +kernel
theorem dX11_init_48 : decode cX11_init 48 = .ok (.aload_n 0, 1) := by decide +kernel
theorem dX11_init_49 : decode cX11_init 49 = .ok (.new 33, 3) := by decide +kernel
theorem dX11_init_52 : decode cX11_init 52 = .ok (.dup, 1) := by decide +kernel
theorem dX11_init_53 : decode cX11_init 53 = .ok (.invokespecial 35, 3) := by decide +kernel
theorem dX11_init_56 : decode cX11_init 56 = .ok (.putfield 36, 3) := by decide +kernel
theorem dX11_init_59 : decode cX11_init 59 = .ok (.aload_n 0, 1) := by decide +kernel
theorem dX11_init_60 : decode cX11_init 60 = .ok (.new 40, 3) := by decide +kernel
theorem dX11_init_63 : decode cX11_init 63 = .ok (.dup, 1) := by decide +kernel
theorem dX11_init_64 : decode cX11_init 64 = .ok (.invokespecial 42, 3) := by decide +kernel
theorem dX11_init_67 : decode cX11_init 67 = .ok (.putfield 43, 3) := by decide +kernel
theorem dX11_init_70 : decode cX11_init 70 = .ok (.return_, 1) := by decide +kernel
set_option maxRecDepth 20000 in
theorem ggX11_letter_X5_append : GoodIn wsX11_letter wsX5_append := goodIn_r _ [7, 8, 9, 19, 20] (by decide +kernel) (by decide +kernel)
set_option maxRecDepth 20000 in
theorem gX11_letter_X5_append : GoodIn wsX11_letter (wsV RX11 51 RX5 yX5_append wsX5_append) := goodIn_app (goodIn_of _ (by decide +kernel)) ggX11_letter_X5_append
theorem dX11_letter_0 : decode cX11_letter 0 = .ok (.iload_n 1, 1) := by decide +kernel
theorem dX11_letter_1 : decode cX11_letter 1 = .ok (.bipush 32, 2) := by decide +kernel
theorem dX11_letter_3 : decode cX11_letter 3 = .ok (.if_icmp .lt 9, 3) := by decide +kernel
theorem dX11_letter_6 : decode cX11_letter 6 = .ok (.iload_n 1, 1) := by decide +kernel
theorem dX11_letter_7 : decode cX11_letter 7 = .ok (.bipush 126, 2) := by decide +kernel
theorem dX11_letter_9 : decode cX11_letter 9 = .ok (.if_icmp .le 6, 3) := by decide +kernel
theorem dX11_letter_12 : decode cX11_letter 12 = .ok (.bipush (-102), 2) := by decide +kernel
theorem dX11_letter_14 : decode cX11_letter 14 = .ok (.ireturn, 1) := by decide +kernel
theorem dX11_letter_15 : decode cX11_letter 15 = .ok (.aload_n 0, 1) := by decide +kernel
theorem dX11_letter_16 : decode cX11_letter 16 = .ok (.getfield 10, 3) := by decide +kernel
theorem dX11_letter_19 : decode cX11_letter 19 = .ok (.getfield 47, 3) := by decide +kernel
theorem dX11_letter_22 : decode cX11_letter 22 = .ok (.bipush 52, 2) := by decide +kernel
theorem dX11_letter_24 : decode cX11_letter 24 = .ok (.if_icmp .lt 6, 3) := by decide +kernel
theorem dX11_letter_27 : decode cX11_letter 27 = .ok (.bipush (-104), 2) := by decide +kernel
theorem dX11_letter_29 : decode cX11_letter 29 = .ok (.ireturn, 1) := by decide +kernel
theorem dX11_letter_30 : decode cX11_letter 30 = .ok (.aload_n 0, 1) := by decide +kernel
theorem dX11_letter_31 : decode cX11_letter 31 = .ok (.getfield 10, 3) := by decide +kernel
theorem dX11_letter_34 : decode cX11_letter 34 = .ok (.iload_n 1, 1) := by decide +kernel
theorem dX11_letter_35 : decode cX11_letter 35 = .ok (.invokevirtual 51, 3) := by decide +kernel
theorem dX11_letter_38 : decode cX11_letter 38 = .ok (.aload_n 0, 1) := by decide +kernel
theorem dX11_letter_39 : decode cX11_letter 39 = .ok (.getfield 10, 3) := by decide +kernel
theorem dX11_letter_42 : decode cX11_letter 42 = .ok (.getfield 47, 3) := by decide +kernel
theorem dX11_letter_45 : decode cX11_letter 45 = .ok (.ireturn, 1) := by decide +kernel
theorem dX11_blank_0 : decode cX11_blank 0 = .ok (.aload_n 0, 1) := by decide +kernel
theorem dX11_blank_1 : decode cX11_blank 1 = .ok (.getfield 10, 3) := by decide +kernel
theorem dX11_blank_4 : decode cX11_blank 4 = .ok (.getfield 47, 3) := by decide +kernel
theorem dX11_blank_7 : decode cX11_blank 7 = .ok (.istore_n 1, 1) := by decide +kernel
theorem dX11_blank_8 : decode cX11_blank 8 = .ok (.aload_n 0, 1) := by decide +kernel
theorem dX11_blank_9 : decode cX11_blank 9 = .ok (.getfield 10, 3) := by decide +kernel
theorem dX11_blank_12 : decode cX11_blank 12 = .ok (.iconst 0, 1) := by decide +kernel
theorem dX11_blank_13 : decode cX11_blank 13 = .ok (.putfield 47, 3) := by decide +kernel
theorem dX11_blank_16 : decode cX11_blank 16 = .ok (.iload_n 1, 1) := by decide +kernel
theorem dX11_blank_17 : decode cX11_blank 17 = .ok (.ireturn, 1) := by decide +kernel
set_option maxRecDepth 20000 in
theorem ggX11_fault_X5_firstFault : GoodIn wsX11_fault wsX5_firstFault := goodIn_r _ [6, 7, 8, 9, 10, 5, 11, 12, 13, 14, 15, 16, 17, 18, 19, 20, 21, 22, 23, 24, 25, 26, 27, 28, 29, 30, 31, 32, 33, 34, 35, 36, 37, 38, 39, 40, 41, 42, 43, 44, 45, 46, 47, 48, 49, 50, 51, 52, 53, 54, 55, 56, 57, 58, 59, 60, 61, 62, 63, 64, 65, 66, 67, 68, 69, 70, 71, 72, 73, 74, 75, 76, 77, 78, 79, 80, 81, 82, 83, 84, 85, 86, 87, 88, 89, 90, 91, 92, 93, 94, 95, 96, 97, 98, 99, 100, 101, 102, 103, 104, 105, 106, 107, 108, 109, 110, 111, 112, 113, 114, 115, 116, 117, 118, 119, 120, 121, 122, 123, 124, 125, 126, 127, 128, 129, 139, 140] (by decide +kernel) (by decide +kernel)
set_option maxRecDepth 20000 in
theorem gX11_fault_X5_firstFault : GoodIn wsX11_fault (wsV RX11 55 RX5 yX5_firstFault wsX5_firstFault) := goodIn_app (goodIn_of _ (by decide +kernel)) ggX11_fault_X5_firstFault
theorem dX11_fault_0 : decode cX11_fault 0 = .ok (.aload_n 0, 1) := by decide +kernel
theorem dX11_fault_1 : decode cX11_fault 1 = .ok (.getfield 10, 3) := by decide +kernel
theorem dX11_fault_4 : decode cX11_fault 4 = .ok (.invokevirtual 55, 3) := by decide +kernel
theorem dX11_fault_7 : decode cX11_fault 7 = .ok (.ireturn, 1) := by decide +kernel
set_option maxRecDepth 20000 in
theorem ggX11_ministry_X5_isWhole : GoodIn wsX11_ministry wsX5_isWhole := goodIn_r _ [11, 12, 13, 14, 15, 10, 16, 17, 18, 19, 20, 21, 22, 23, 24, 25, 26, 27, 28, 29, 30, 31, 32, 33, 34, 35, 36, 37, 38, 39, 40, 41, 42, 43, 44, 45, 46, 47, 48, 49, 50, 51, 52, 53, 54, 55, 56, 57, 58, 59, 60, 61, 62, 63, 64, 65, 66, 67, 68, 69, 70, 71, 72, 73, 74, 75, 76, 77, 78, 79, 80, 81, 82, 83, 84, 85, 86, 87, 88, 89, 90, 91, 92, 93, 94, 95, 96, 97, 98, 99, 100, 101, 102, 103, 104, 105, 106, 107, 108, 109, 110, 111, 112, 113, 114, 115, 116, 117, 118, 119, 120, 121, 122, 123, 124, 125, 126, 127, 128, 129, 130, 131, 132, 133, 134, 135, 136, 137, 138, 171, 172] (by decide +kernel) (by decide +kernel)
set_option maxRecDepth 20000 in
theorem gX11_ministry_X5_isWhole : GoodIn wsX11_ministry (wsV RX11 59 RX5 yX5_isWhole wsX5_isWhole) := goodIn_app (goodIn_of _ (by decide +kernel)) ggX11_ministry_X5_isWhole
set_option maxRecDepth 20000 in
theorem ggX11_ministry_X2_settle : GoodIn wsX11_ministry wsX2_settle := goodIn_r _ [143, 144, 145, 83, 80, 84, 146, 147, 148, 149, 150, 151, 152, 153, 154, 155, 156, 157, 158, 159, 14, 15, 10, 16, 12, 17, 160, 39, 40, 41, 30, 31, 32, 33, 161, 47, 48, 49, 50, 51, 52, 53, 54, 55, 56, 57, 58, 59, 60, 61, 62, 63, 64, 65, 66, 67, 68, 69, 70, 71, 72, 73, 74, 75, 76, 77, 78, 79, 81, 82, 85, 86, 87, 88, 89, 90, 91, 92, 93, 94, 95, 96, 97, 98, 99, 100, 101, 102, 103, 104, 105, 106, 107, 108, 109, 110, 111, 112, 113, 114, 115, 116, 117, 118, 119, 120, 121, 122, 123, 124, 125, 126, 127, 128, 129, 130, 131, 132, 133, 134, 135, 136, 137, 138, 173, 174, 175, 176, 177, 178, 179, 180, 181, 182, 183, 184, 185, 186, 187, 188, 189, 190, 171, 172] (by decide +kernel) (by decide +kernel)
set_option maxRecDepth 20000 in
theorem gX11_ministry_X2_settle : GoodIn wsX11_ministry (wsV RX11 63 RX2 yX2_settle wsX2_settle) := goodIn_app (goodIn_of _ (by decide +kernel)) ggX11_ministry_X2_settle
theorem dX11_ministry_0 : decode cX11_ministry 0 = .ok (.aload_n 0, 1) := by decide +kernel
theorem dX11_ministry_1 : decode cX11_ministry 1 = .ok (.getfield 10, 3) := by decide +kernel
theorem dX11_ministry_4 : decode cX11_ministry 4 = .ok (.invokevirtual 59, 3) := by decide +kernel
theorem dX11_ministry_7 : decode cX11_ministry 7 = .ok (.ifCond .ne 6, 3) := by decide +kernel
theorem dX11_ministry_10 : decode cX11_ministry 10 = .ok (.bipush (-103), 2) := by decide +kernel
theorem dX11_ministry_12 : decode cX11_ministry 12 = .ok (.ireturn, 1) := by decide +kernel
theorem dX11_ministry_13 : decode cX11_ministry 13 = .ok (.aload_n 0, 1) := by decide +kernel
theorem dX11_ministry_14 : decode cX11_ministry 14 = .ok (.getfield 19, 3) := by decide +kernel
theorem dX11_ministry_17 : decode cX11_ministry 17 = .ok (.aload_n 0, 1) := by decide +kernel
theorem dX11_ministry_18 : decode cX11_ministry 18 = .ok (.getfield 10, 3) := by decide +kernel
theorem dX11_ministry_21 : decode cX11_ministry 21 = .ok (.invokevirtual 63, 3) := by decide +kernel
theorem dX11_ministry_24 : decode cX11_ministry 24 = .ok (.aload_n 0, 1) := by decide +kernel
theorem dX11_ministry_25 : decode cX11_ministry 25 = .ok (.getfield 10, 3) := by decide +kernel
theorem dX11_ministry_28 : decode cX11_ministry 28 = .ok (.iconst 0, 1) := by decide +kernel
theorem dX11_ministry_29 : decode cX11_ministry 29 = .ok (.putfield 47, 3) := by decide +kernel
theorem dX11_ministry_32 : decode cX11_ministry 32 = .ok (.aload_n 0, 1) := by decide +kernel
theorem dX11_ministry_33 : decode cX11_ministry 33 = .ok (.iconst 0, 1) := by decide +kernel
theorem dX11_ministry_34 : decode cX11_ministry 34 = .ok (.putfield 67, 3) := by decide +kernel
theorem dX11_ministry_37 : decode cX11_ministry 37 = .ok (.aload_n 0, 1) := by decide +kernel
theorem dX11_ministry_38 : decode cX11_ministry 38 = .ok (.dup, 1) := by decide +kernel
theorem dX11_ministry_39 : decode cX11_ministry 39 = .ok (.getfield 71, 3) := by decide +kernel
theorem dX11_ministry_42 : decode cX11_ministry 42 = .ok (.iconst 1, 1) := by decide +kernel
theorem dX11_ministry_43 : decode cX11_ministry 43 = .ok (.iadd, 1) := by decide +kernel
theorem dX11_ministry_44 : decode cX11_ministry 44 = .ok (.putfield 71, 3) := by decide +kernel
theorem dX11_ministry_47 : decode cX11_ministry 47 = .ok (.aload_n 0, 1) := by decide +kernel
theorem dX11_ministry_48 : decode cX11_ministry 48 = .ok (.getfield 19, 3) := by decide +kernel
theorem dX11_ministry_51 : decode cX11_ministry 51 = .ok (.getfield 74, 3) := by decide +kernel
theorem dX11_ministry_54 : decode cX11_ministry 54 = .ok (.ireturn, 1) := by decide +kernel
set_option maxRecDepth 20000 in
theorem ggX11_person_X2_hasPerson : GoodIn wsX11_person wsX2_hasPerson := goodIn_r _ [6, 7, 95, 96, 97, 98, 99, 100, 101, 102, 103, 104, 105, 106, 107, 108, 109, 110, 111, 112] (by decide +kernel) (by decide +kernel)
set_option maxRecDepth 20000 in
theorem gX11_person_X2_hasPerson : GoodIn wsX11_person (wsV RX11 77 RX2 yX2_hasPerson wsX2_hasPerson) := goodIn_app (goodIn_of _ (by decide +kernel)) ggX11_person_X2_hasPerson
set_option maxRecDepth 20000 in
theorem ggX11_person_X11_tellPerson : GoodIn wsX11_person wsX11_tellPerson := goodIn_r _ [12, 1, 13, 14, 15, 16, 17, 18, 19, 20, 21, 22, 23, 24, 25, 26, 27, 28, 29, 30, 31, 32, 5, 33, 34, 35, 36, 37, 38, 39, 40, 41, 42, 43, 44, 45, 46, 47, 48, 49, 50, 51, 52, 53, 54, 55, 56, 57, 58, 59, 60, 61, 62, 63, 64, 65, 66, 67, 68, 69, 70, 71, 72, 73, 74, 75, 76, 77, 78, 79, 80, 81, 82, 83, 84, 85, 86, 87, 88, 89, 90, 91, 92, 93, 94, 95, 96, 97, 98, 99, 100, 101, 102, 103, 104, 105, 106, 107, 108, 109, 110, 111, 112] (by decide +kernel) (by decide +kernel)
set_option maxRecDepth 20000 in
theorem gX11_person_X11_tellPerson : GoodIn wsX11_person (wsV RX11 81 RX11 yX11_tellPerson wsX11_tellPerson) := goodIn_app (goodIn_of _ (by decide +kernel)) ggX11_person_X11_tellPerson
theorem dX11_person_0 : decode cX11_person 0 = .ok (.aload_n 0, 1) := by decide +kernel
theorem dX11_person_1 : decode cX11_person 1 = .ok (.getfield 19, 3) := by decide +kernel
theorem dX11_person_4 : decode cX11_person 4 = .ok (.iload_n 1, 1) := by decide +kernel
theorem dX11_person_5 : decode cX11_person 5 = .ok (.invokevirtual 77, 3) := by decide +kernel
theorem dX11_person_8 : decode cX11_person 8 = .ok (.ifCond .ne 6, 3) := by decide +kernel
theorem dX11_person_11 : decode cX11_person 11 = .ok (.bipush (-101), 2) := by decide +kernel
theorem dX11_person_13 : decode cX11_person 13 = .ok (.ireturn, 1) := by decide +kernel
theorem dX11_person_14 : decode cX11_person 14 = .ok (.aload_n 0, 1) := by decide +kernel
theorem dX11_person_15 : decode cX11_person 15 = .ok (.iload_n 1, 1) := by decide +kernel
theorem dX11_person_16 : decode cX11_person 16 = .ok (.iload_n 2, 1) := by decide +kernel
theorem dX11_person_17 : decode cX11_person 17 = .ok (.invokevirtual 81, 3) := by decide +kernel
theorem dX11_person_20 : decode cX11_person 20 = .ok (.ireturn, 1) := by decide +kernel
set_option maxRecDepth 20000 in
theorem ggX11_tellPerson_X7_possibleLies : GoodIn wsX11_tellPerson wsX7_possibleLies := goodIn_r _ [10, 11, 12, 9, 13, 14, 15, 16, 17, 18, 19, 20, 21, 22, 23, 24, 25, 26, 27, 28, 29, 30, 31, 32, 33, 34, 35, 36, 37, 38, 39, 40, 41, 42, 43, 44, 45, 46, 47, 48, 49, 50, 51, 52, 53, 54, 55, 56, 57, 58, 59, 60, 61, 62, 63, 85, 86, 87, 88, 89, 90, 91, 92, 93, 94, 95, 96, 97, 98, 99, 100, 101, 102] (by decide +kernel) (by decide +kernel)
set_option maxRecDepth 20000 in
theorem gX11_tellPerson_X7_possibleLies : GoodIn wsX11_tellPerson (va_wsS RX11 101 yX7_possibleLies wsX7_possibleLies) := goodIn_app (goodIn_of _ (by decide +kernel)) ggX11_tellPerson_X7_possibleLies
set_option maxRecDepth 20000 in
theorem ggX11_tellPerson_X7_bestQuestion : GoodIn wsX11_tellPerson wsX7_bestQuestion := goodIn_r _ [66, 67, 68, 69, 70, 9, 71, 72, 73, 74, 75, 19, 20, 21, 22, 23, 24, 25, 26, 27, 28, 29, 30, 31, 32, 33, 34, 35, 36, 37, 38, 39, 40, 41, 42, 43, 44, 45, 46, 47, 48, 49, 50, 51, 52, 53, 54, 55, 56, 57, 58, 59, 60, 61, 62, 63, 85, 86, 87, 88, 89, 90, 91, 92, 93, 94, 95, 96, 97, 98, 99, 100, 101, 102] (by decide +kernel) (by decide +kernel)
set_option maxRecDepth 20000 in
theorem gX11_tellPerson_X7_bestQuestion : GoodIn wsX11_tellPerson (va_wsS RX11 107 yX7_bestQuestion wsX7_bestQuestion) := goodIn_app (goodIn_of _ (by decide +kernel)) ggX11_tellPerson_X7_bestQuestion
theorem dX11_tellPerson_0 : decode cX11_tellPerson 0 = .ok (.iload_n 2, 1) := by decide +kernel
theorem dX11_tellPerson_1 : decode cX11_tellPerson 1 = .ok (.tableswitch 119 0 6 #[43, 53, 63, 73, 83, 93, 102], 43) := by decide +kernel
theorem dX11_tellPerson_44 : decode cX11_tellPerson 44 = .ok (.aload_n 0, 1) := by decide +kernel
theorem dX11_tellPerson_45 : decode cX11_tellPerson 45 = .ok (.getfield 19, 3) := by decide +kernel
theorem dX11_tellPerson_48 : decode cX11_tellPerson 48 = .ok (.getfield 85, 3) := by decide +kernel
theorem dX11_tellPerson_51 : decode cX11_tellPerson 51 = .ok (.iload_n 1, 1) := by decide +kernel
theorem dX11_tellPerson_52 : decode cX11_tellPerson 52 = .ok (.iaload, 1) := by decide +kernel
theorem dX11_tellPerson_53 : decode cX11_tellPerson 53 = .ok (.ireturn, 1) := by decide +kernel
theorem dX11_tellPerson_54 : decode cX11_tellPerson 54 = .ok (.aload_n 0, 1) := by decide +kernel
theorem dX11_tellPerson_55 : decode cX11_tellPerson 55 = .ok (.getfield 19, 3) := by decide +kernel
theorem dX11_tellPerson_58 : decode cX11_tellPerson 58 = .ok (.getfield 89, 3) := by decide +kernel
theorem dX11_tellPerson_61 : decode cX11_tellPerson 61 = .ok (.iload_n 1, 1) := by decide +kernel
theorem dX11_tellPerson_62 : decode cX11_tellPerson 62 = .ok (.iaload, 1) := by decide +kernel
theorem dX11_tellPerson_63 : decode cX11_tellPerson 63 = .ok (.ireturn, 1) := by decide +kernel
theorem dX11_tellPerson_64 : decode cX11_tellPerson 64 = .ok (.aload_n 0, 1) := by decide +kernel
theorem dX11_tellPerson_65 : decode cX11_tellPerson 65 = .ok (.getfield 19, 3) := by decide +kernel
theorem dX11_tellPerson_68 : decode cX11_tellPerson 68 = .ok (.getfield 92, 3) := by decide +kernel
theorem dX11_tellPerson_71 : decode cX11_tellPerson 71 = .ok (.iload_n 1, 1) := by decide +kernel
theorem dX11_tellPerson_72 : decode cX11_tellPerson 72 = .ok (.iaload, 1) := by decide +kernel
theorem dX11_tellPerson_73 : decode cX11_tellPerson 73 = .ok (.ireturn, 1) := by decide +kernel
theorem dX11_tellPerson_74 : decode cX11_tellPerson 74 = .ok (.aload_n 0, 1) := by decide +kernel
theorem dX11_tellPerson_75 : decode cX11_tellPerson 75 = .ok (.getfield 19, 3) := by decide +kernel
theorem dX11_tellPerson_78 : decode cX11_tellPerson 78 = .ok (.getfield 95, 3) := by decide +kernel
theorem dX11_tellPerson_81 : decode cX11_tellPerson 81 = .ok (.iload_n 1, 1) := by decide +kernel
theorem dX11_tellPerson_82 : decode cX11_tellPerson 82 = .ok (.iaload, 1) := by decide +kernel
theorem dX11_tellPerson_83 : decode cX11_tellPerson 83 = .ok (.ireturn, 1) := by decide +kernel
theorem dX11_tellPerson_84 : decode cX11_tellPerson 84 = .ok (.aload_n 0, 1) := by decide +kernel
theorem dX11_tellPerson_85 : decode cX11_tellPerson 85 = .ok (.getfield 19, 3) := by decide +kernel
theorem dX11_tellPerson_88 : decode cX11_tellPerson 88 = .ok (.getfield 98, 3) := by decide +kernel
theorem dX11_tellPerson_91 : decode cX11_tellPerson 91 = .ok (.iload_n 1, 1) := by decide +kernel
theorem dX11_tellPerson_92 : decode cX11_tellPerson 92 = .ok (.iaload, 1) := by decide +kernel
theorem dX11_tellPerson_93 : decode cX11_tellPerson 93 = .ok (.ireturn, 1) := by decide +kernel
theorem dX11_tellPerson_94 : decode cX11_tellPerson 94 = .ok (.aload_n 0, 1) := by decide +kernel
theorem dX11_tellPerson_95 : decode cX11_tellPerson 95 = .ok (.getfield 19, 3) := by decide +kernel
theorem dX11_tellPerson_98 : decode cX11_tellPerson 98 = .ok (.iload_n 1, 1) := by decide +kernel
theorem dX11_tellPerson_99 : decode cX11_tellPerson 99 = .ok (.invokestatic 101, 3) := by decide +kernel
theorem dX11_tellPerson_102 : decode cX11_tellPerson 102 = .ok (.ireturn, 1) := by decide +kernel
theorem dX11_tellPerson_103 : decode cX11_tellPerson 103 = .ok (.aload_n 0, 1) := by decide +kernel
theorem dX11_tellPerson_104 : decode cX11_tellPerson 104 = .ok (.getfield 19, 3) := by decide +kernel
theorem dX11_tellPerson_107 : decode cX11_tellPerson 107 = .ok (.iload_n 1, 1) := by decide +kernel
theorem dX11_tellPerson_108 : decode cX11_tellPerson 108 = .ok (.aload_n 0, 1) := by decide +kernel
theorem dX11_tellPerson_109 : decode cX11_tellPerson 109 = .ok (.getfield 19, 3) := by decide +kernel
theorem dX11_tellPerson_112 : decode cX11_tellPerson 112 = .ok (.iload_n 1, 1) := by decide +kernel
theorem dX11_tellPerson_113 : decode cX11_tellPerson 113 = .ok (.invokestatic 101, 3) := by decide +kernel
theorem dX11_tellPerson_116 : decode cX11_tellPerson 116 = .ok (.invokestatic 107, 3) := by decide +kernel
theorem dX11_tellPerson_119 : decode cX11_tellPerson 119 = .ok (.ireturn, 1) := by decide +kernel
theorem dX11_tellPerson_120 : decode cX11_tellPerson 120 = .ok (.bipush (-102), 2) := by decide +kernel
theorem dX11_tellPerson_122 : decode cX11_tellPerson 122 = .ok (.ireturn, 1) := by decide +kernel
set_option maxRecDepth 20000 in
theorem ggX11_as_X2_hasPerson : GoodIn wsX11_as wsX2_hasPerson := goodIn_r _ [6, 7, 31, 32, 33, 34, 35, 36, 37, 38, 39, 40, 41, 42, 43, 44, 45, 46, 47, 48] (by decide +kernel) (by decide +kernel)
set_option maxRecDepth 20000 in
theorem gX11_as_X2_hasPerson : GoodIn wsX11_as (wsV RX11 77 RX2 yX2_hasPerson wsX2_hasPerson) := goodIn_app (goodIn_of _ (by decide +kernel)) ggX11_as_X2_hasPerson
set_option maxRecDepth 20000 in
theorem ggX11_as_X2_clerk : GoodIn wsX11_as wsX2_clerk := goodIn_r _ [11, 12, 13, 31, 32, 33, 34, 35, 36, 37, 38, 39, 40, 41, 42, 43, 44, 45, 46, 47, 48] (by decide +kernel) (by decide +kernel)
set_option maxRecDepth 20000 in
theorem gX11_as_X2_clerk : GoodIn wsX11_as (wsV RX11 111 RX2 yX2_clerk wsX2_clerk) := goodIn_app (goodIn_of _ (by decide +kernel)) ggX11_as_X2_clerk
set_option maxRecDepth 20000 in
theorem ggX11_as_X11_isOfKind : GoodIn wsX11_as wsX11_isOfKind := goodIn_r _ [17, 18, 19, 20, 21] (by decide +kernel) (by decide +kernel)
set_option maxRecDepth 20000 in
theorem gX11_as_X11_isOfKind : GoodIn wsX11_as (va_wsS RX11 115 yX11_isOfKind wsX11_isOfKind) := goodIn_app (goodIn_of _ (by decide +kernel)) ggX11_as_X11_isOfKind
theorem dX11_as_0 : decode cX11_as 0 = .ok (.aload_n 0, 1) := by decide +kernel
theorem dX11_as_1 : decode cX11_as 1 = .ok (.getfield 19, 3) := by decide +kernel
theorem dX11_as_4 : decode cX11_as 4 = .ok (.iload_n 1, 1) := by decide +kernel
theorem dX11_as_5 : decode cX11_as 5 = .ok (.invokevirtual 77, 3) := by decide +kernel
theorem dX11_as_8 : decode cX11_as 8 = .ok (.ifCond .ne 6, 3) := by decide +kernel
theorem dX11_as_11 : decode cX11_as 11 = .ok (.bipush (-101), 2) := by decide +kernel
theorem dX11_as_13 : decode cX11_as 13 = .ok (.ireturn, 1) := by decide +kernel
theorem dX11_as_14 : decode cX11_as 14 = .ok (.iload_n 2, 1) := by decide +kernel
theorem dX11_as_15 : decode cX11_as 15 = .ok (.ifCond .lt 8, 3) := by decide +kernel
theorem dX11_as_18 : decode cX11_as 18 = .ok (.iload_n 2, 1) := by decide +kernel
theorem dX11_as_19 : decode cX11_as 19 = .ok (.iconst 5, 1) := by decide +kernel
theorem dX11_as_20 : decode cX11_as 20 = .ok (.if_icmp .lt 6, 3) := by decide +kernel
theorem dX11_as_23 : decode cX11_as 23 = .ok (.bipush (-102), 2) := by decide +kernel
theorem dX11_as_25 : decode cX11_as 25 = .ok (.ireturn, 1) := by decide +kernel
theorem dX11_as_26 : decode cX11_as 26 = .ok (.aload_n 0, 1) := by decide +kernel
theorem dX11_as_27 : decode cX11_as 27 = .ok (.getfield 19, 3) := by decide +kernel
theorem dX11_as_30 : decode cX11_as 30 = .ok (.iload_n 1, 1) := by decide +kernel
theorem dX11_as_31 : decode cX11_as 31 = .ok (.invokevirtual 111, 3) := by decide +kernel
theorem dX11_as_34 : decode cX11_as 34 = .ok (.iload_n 2, 1) := by decide +kernel
theorem dX11_as_35 : decode cX11_as 35 = .ok (.invokestatic 115, 3) := by decide +kernel
theorem dX11_as_38 : decode cX11_as 38 = .ok (.ifCond .eq 7, 3) := by decide +kernel
theorem dX11_as_41 : decode cX11_as 41 = .ok (.iload_n 1, 1) := by decide +kernel
theorem dX11_as_42 : decode cX11_as 42 = .ok (.goto 4, 3) := by decide +kernel
theorem dX11_as_45 : decode cX11_as 45 = .ok (.iconst (-1), 1) := by decide +kernel
theorem dX11_as_46 : decode cX11_as 46 = .ok (.ireturn, 1) := by decide +kernel
theorem dX11_isOfKind_0 : decode cX11_isOfKind 0 = .ok (.iload_n 1, 1) := by decide +kernel
theorem dX11_isOfKind_1 : decode cX11_isOfKind 1 = .ok (.tableswitch 51 1 4 #[31, 36, 41, 46], 31) := by decide +kernel
theorem dX11_isOfKind_32 : decode cX11_isOfKind 32 = .ok (.aload_n 0, 1) := by decide +kernel
theorem dX11_isOfKind_33 : decode cX11_isOfKind 33 = .ok (.instanceof 119, 3) := by decide +kernel
theorem dX11_isOfKind_36 : decode cX11_isOfKind 36 = .ok (.ireturn, 1) := by decide +kernel
theorem dX11_isOfKind_37 : decode cX11_isOfKind 37 = .ok (.aload_n 0, 1) := by decide +kernel
theorem dX11_isOfKind_38 : decode cX11_isOfKind 38 = .ok (.instanceof 121, 3) := by decide +kernel
theorem dX11_isOfKind_41 : decode cX11_isOfKind 41 = .ok (.ireturn, 1) := by decide +kernel
theorem dX11_isOfKind_42 : decode cX11_isOfKind 42 = .ok (.aload_n 0, 1) := by decide +kernel
theorem dX11_isOfKind_43 : decode cX11_isOfKind 43 = .ok (.instanceof 123, 3) := by decide +kernel
theorem dX11_isOfKind_46 : decode cX11_isOfKind 46 = .ok (.ireturn, 1) := by decide +kernel
theorem dX11_isOfKind_47 : decode cX11_isOfKind 47 = .ok (.aload_n 0, 1) := by decide +kernel
theorem dX11_isOfKind_48 : decode cX11_isOfKind 48 = .ok (.instanceof 125, 3) := by decide +kernel
theorem dX11_isOfKind_51 : decode cX11_isOfKind 51 = .ok (.ireturn, 1) := by decide +kernel
theorem dX11_isOfKind_52 : decode cX11_isOfKind 52 = .ok (.iconst 1, 1) := by decide +kernel
theorem dX11_isOfKind_53 : decode cX11_isOfKind 53 = .ok (.ireturn, 1) := by decide +kernel
set_option maxRecDepth 20000 in
theorem ggX11_passage_X2_hasPassage : GoodIn wsX11_passage wsX2_hasPassage := goodIn_r _ [6, 7, 25, 26, 27, 28, 29, 30, 31, 32, 33, 34, 35, 36, 37, 38, 39, 40, 41, 42] (by decide +kernel) (by decide +kernel)
set_option maxRecDepth 20000 in
theorem gX11_passage_X2_hasPassage : GoodIn wsX11_passage (wsV RX11 127 RX2 yX2_hasPassage wsX2_hasPassage) := goodIn_app (goodIn_of _ (by decide +kernel)) ggX11_passage_X2_hasPassage
set_option maxRecDepth 20000 in
theorem ggX11_passage_X11_tellPassage : GoodIn wsX11_passage wsX11_tellPassage := goodIn_r _ [12, 1, 13, 14, 15, 16, 17, 18, 19, 20, 21, 22, 23, 24, 25, 26, 27, 28, 29, 30, 31, 32, 33, 34, 35, 36, 37, 38, 39, 40, 41, 42] (by decide +kernel) (by decide +kernel)
set_option maxRecDepth 20000 in
theorem gX11_passage_X11_tellPassage : GoodIn wsX11_passage (wsV RX11 130 RX11 yX11_tellPassage wsX11_tellPassage) := goodIn_app (goodIn_of _ (by decide +kernel)) ggX11_passage_X11_tellPassage
theorem dX11_passage_0 : decode cX11_passage 0 = .ok (.aload_n 0, 1) := by decide +kernel
theorem dX11_passage_1 : decode cX11_passage 1 = .ok (.getfield 19, 3) := by decide +kernel
theorem dX11_passage_4 : decode cX11_passage 4 = .ok (.iload_n 1, 1) := by decide +kernel
theorem dX11_passage_5 : decode cX11_passage 5 = .ok (.invokevirtual 127, 3) := by decide +kernel
theorem dX11_passage_8 : decode cX11_passage 8 = .ok (.ifCond .ne 6, 3) := by decide +kernel
theorem dX11_passage_11 : decode cX11_passage 11 = .ok (.bipush (-101), 2) := by decide +kernel
theorem dX11_passage_13 : decode cX11_passage 13 = .ok (.ireturn, 1) := by decide +kernel
theorem dX11_passage_14 : decode cX11_passage 14 = .ok (.aload_n 0, 1) := by decide +kernel
theorem dX11_passage_15 : decode cX11_passage 15 = .ok (.iload_n 1, 1) := by decide +kernel
theorem dX11_passage_16 : decode cX11_passage 16 = .ok (.iload_n 2, 1) := by decide +kernel
theorem dX11_passage_17 : decode cX11_passage 17 = .ok (.invokevirtual 130, 3) := by decide +kernel
theorem dX11_passage_20 : decode cX11_passage 20 = .ok (.ireturn, 1) := by decide +kernel
theorem dX11_tellPassage_0 : decode cX11_tellPassage 0 = .ok (.iload_n 2, 1) := by decide +kernel
theorem dX11_tellPassage_1 : decode cX11_tellPassage 1 = .ok (.tableswitch 57 0 2 #[27, 37, 47], 27) := by decide +kernel
theorem dX11_tellPassage_28 : decode cX11_tellPassage 28 = .ok (.aload_n 0, 1) := by decide +kernel
theorem dX11_tellPassage_29 : decode cX11_tellPassage 29 = .ok (.getfield 19, 3) := by decide +kernel
theorem dX11_tellPassage_32 : decode cX11_tellPassage 32 = .ok (.getfield 133, 3) := by decide +kernel
theorem dX11_tellPassage_35 : decode cX11_tellPassage 35 = .ok (.iload_n 1, 1) := by decide +kernel
theorem dX11_tellPassage_36 : decode cX11_tellPassage 36 = .ok (.iaload, 1) := by decide +kernel
theorem dX11_tellPassage_37 : decode cX11_tellPassage 37 = .ok (.ireturn, 1) := by decide +kernel
theorem dX11_tellPassage_38 : decode cX11_tellPassage 38 = .ok (.aload_n 0, 1) := by decide +kernel
theorem dX11_tellPassage_39 : decode cX11_tellPassage 39 = .ok (.getfield 19, 3) := by decide +kernel
theorem dX11_tellPassage_42 : decode cX11_tellPassage 42 = .ok (.getfield 136, 3) := by decide +kernel
theorem dX11_tellPassage_45 : decode cX11_tellPassage 45 = .ok (.iload_n 1, 1) := by decide +kernel
theorem dX11_tellPassage_46 : decode cX11_tellPassage 46 = .ok (.iaload, 1) := by decide +kernel
theorem dX11_tellPassage_47 : decode cX11_tellPassage 47 = .ok (.ireturn, 1) := by decide +kernel
theorem dX11_tellPassage_48 : decode cX11_tellPassage 48 = .ok (.aload_n 0, 1) := by decide +kernel
theorem dX11_tellPassage_49 : decode cX11_tellPassage 49 = .ok (.getfield 19, 3) := by decide +kernel
theorem dX11_tellPassage_52 : decode cX11_tellPassage 52 = .ok (.getfield 139, 3) := by decide +kernel
theorem dX11_tellPassage_55 : decode cX11_tellPassage 55 = .ok (.iload_n 1, 1) := by decide +kernel
theorem dX11_tellPassage_56 : decode cX11_tellPassage 56 = .ok (.iaload, 1) := by decide +kernel
theorem dX11_tellPassage_57 : decode cX11_tellPassage 57 = .ok (.ireturn, 1) := by decide +kernel
theorem dX11_tellPassage_58 : decode cX11_tellPassage 58 = .ok (.bipush (-102), 2) := by decide +kernel
theorem dX11_tellPassage_60 : decode cX11_tellPassage 60 = .ok (.ireturn, 1) := by decide +kernel
set_option maxRecDepth 20000 in
theorem ggX11_steps_X2_knows : GoodIn wsX11_steps wsX2_knows := goodIn_r _ [6, 7, 8, 9, 5, 10, 11, 12, 13, 14, 15, 16, 74, 75, 76, 77, 78, 79, 80, 81, 82, 83, 84, 85, 86, 87, 88, 89, 90, 91] (by decide +kernel) (by decide +kernel)
set_option maxRecDepth 20000 in
theorem gX11_steps_X2_knows : GoodIn wsX11_steps (wsV RX11 142 RX2 yX2_knows wsX2_knows) := goodIn_app (goodIn_of _ (by decide +kernel)) ggX11_steps_X2_knows
set_option maxRecDepth 20000 in
theorem ggX11_steps_X2_stepsOf : GoodIn wsX11_steps wsX2_stepsOf := goodIn_r _ [20, 21, 22, 23, 24, 5, 25, 26, 27, 28, 29, 30, 31, 32, 33, 34, 35, 36, 37, 38, 39, 40, 41, 42, 43, 44, 45, 46, 47, 48, 49, 50, 51, 52, 53, 54, 55, 56, 57, 58, 59, 60, 61, 62, 63, 64, 74, 75, 76, 77, 78, 79, 80, 81, 82, 83, 84, 85, 86, 87, 88, 89, 90, 91] (by decide +kernel) (by decide +kernel)
set_option maxRecDepth 20000 in
theorem gX11_steps_X2_stepsOf : GoodIn wsX11_steps (wsV RX11 146 RX2 yX2_stepsOf wsX2_stepsOf) := goodIn_app (goodIn_of _ (by decide +kernel)) ggX11_steps_X2_stepsOf
theorem dX11_steps_0 : decode cX11_steps 0 = .ok (.aload_n 0, 1) := by decide +kernel
theorem dX11_steps_1 : decode cX11_steps 1 = .ok (.getfield 19, 3) := by decide +kernel
theorem dX11_steps_4 : decode cX11_steps 4 = .ok (.iload_n 1, 1) := by decide +kernel
theorem dX11_steps_5 : decode cX11_steps 5 = .ok (.iload_n 2, 1) := by decide +kernel
theorem dX11_steps_6 : decode cX11_steps 6 = .ok (.iload_n 3, 1) := by decide +kernel
theorem dX11_steps_7 : decode cX11_steps 7 = .ok (.invokevirtual 142, 3) := by decide +kernel
theorem dX11_steps_10 : decode cX11_steps 10 = .ok (.ifCond .ne 6, 3) := by decide +kernel
theorem dX11_steps_13 : decode cX11_steps 13 = .ok (.bipush (-101), 2) := by decide +kernel
theorem dX11_steps_15 : decode cX11_steps 15 = .ok (.ireturn, 1) := by decide +kernel
theorem dX11_steps_16 : decode cX11_steps 16 = .ok (.aload_n 0, 1) := by decide +kernel
theorem dX11_steps_17 : decode cX11_steps 17 = .ok (.getfield 19, 3) := by decide +kernel
theorem dX11_steps_20 : decode cX11_steps 20 = .ok (.iload_n 1, 1) := by decide +kernel
theorem dX11_steps_21 : decode cX11_steps 21 = .ok (.iload_n 2, 1) := by decide +kernel
theorem dX11_steps_22 : decode cX11_steps 22 = .ok (.iload_n 3, 1) := by decide +kernel
theorem dX11_steps_23 : decode cX11_steps 23 = .ok (.invokevirtual 146, 3) := by decide +kernel
theorem dX11_steps_26 : decode cX11_steps 26 = .ok (.ireturn, 1) := by decide +kernel
set_option maxRecDepth 20000 in
theorem ggX11_go_X2_knows : GoodIn wsX11_go wsX2_knows := goodIn_r _ [7, 8, 9, 10, 6, 11, 12, 13, 14, 15, 16, 17, 92, 93, 94, 95, 96, 97, 98, 99, 100, 101, 102, 103, 104, 105, 106, 107, 108, 109] (by decide +kernel) (by decide +kernel)
set_option maxRecDepth 20000 in
theorem gX11_go_X2_knows : GoodIn wsX11_go (wsV RX11 142 RX2 yX2_knows wsX2_knows) := goodIn_app (goodIn_of _ (by decide +kernel)) ggX11_go_X2_knows
set_option maxRecDepth 20000 in
theorem ggX11_go_X2_mayLeaveBy : GoodIn wsX11_go wsX2_mayLeaveBy := goodIn_r _ [21, 22, 23, 24, 25, 6, 26, 27, 28, 92, 93, 94, 95, 96, 97, 98, 99, 100, 101, 102, 103, 104, 105, 106, 107, 108, 109] (by decide +kernel) (by decide +kernel)
set_option maxRecDepth 20000 in
theorem gX11_go_X2_mayLeaveBy : GoodIn wsX11_go (wsV RX11 150 RX2 yX2_mayLeaveBy wsX2_mayLeaveBy) := goodIn_app (goodIn_of _ (by decide +kernel)) ggX11_go_X2_mayLeaveBy
set_option maxRecDepth 20000 in
theorem ggX11_go_X2_walk : GoodIn wsX11_go wsX2_walk := goodIn_r _ [32, 33, 22, 34, 35, 36, 37, 38, 6, 39, 40, 41, 42, 43, 44, 45, 46, 47, 48, 49, 50, 51, 52, 53, 54, 55, 56, 57, 58, 59, 60, 61, 62, 63, 64, 65, 66, 67, 68, 69, 70, 71, 72, 73, 74, 75, 76, 77, 78, 79, 80, 81, 82, 27, 28, 92, 93, 94, 95, 96, 97, 98, 99, 100, 101, 102, 103, 104, 105, 106, 107, 108, 109] (by decide +kernel) (by decide +kernel)
set_option maxRecDepth 20000 in
theorem gX11_go_X2_walk : GoodIn wsX11_go (wsV RX11 153 RX2 yX2_walk wsX2_walk) := goodIn_app (goodIn_of _ (by decide +kernel)) ggX11_go_X2_walk
theorem dX11_go_0 : decode cX11_go 0 = .ok (.aload_n 0, 1) := by decide +kernel
theorem dX11_go_1 : decode cX11_go 1 = .ok (.getfield 19, 3) := by decide +kernel
theorem dX11_go_4 : decode cX11_go 4 = .ok (.iload_n 1, 1) := by decide +kernel
theorem dX11_go_5 : decode cX11_go 5 = .ok (.iload_n 2, 1) := by decide +kernel
theorem dX11_go_6 : decode cX11_go 6 = .ok (.iload_n 3, 1) := by decide +kernel
theorem dX11_go_7 : decode cX11_go 7 = .ok (.invokevirtual 142, 3) := by decide +kernel
theorem dX11_go_10 : decode cX11_go 10 = .ok (.ifCond .ne 6, 3) := by decide +kernel
theorem dX11_go_13 : decode cX11_go 13 = .ok (.bipush (-101), 2) := by decide +kernel
theorem dX11_go_15 : decode cX11_go 15 = .ok (.ireturn, 1) := by decide +kernel
theorem dX11_go_16 : decode cX11_go 16 = .ok (.aload_n 0, 1) := by decide +kernel
theorem dX11_go_17 : decode cX11_go 17 = .ok (.getfield 19, 3) := by decide +kernel
theorem dX11_go_20 : decode cX11_go 20 = .ok (.iload_n 1, 1) := by decide +kernel
theorem dX11_go_21 : decode cX11_go 21 = .ok (.iload_n 2, 1) := by decide +kernel
theorem dX11_go_22 : decode cX11_go 22 = .ok (.iload_n 3, 1) := by decide +kernel
theorem dX11_go_23 : decode cX11_go 23 = .ok (.invokevirtual 150, 3) := by decide +kernel
theorem dX11_go_26 : decode cX11_go 26 = .ok (.ifCond .ne 6, 3) := by decide +kernel
theorem dX11_go_29 : decode cX11_go 29 = .ok (.bipush (-103), 2) := by decide +kernel
theorem dX11_go_31 : decode cX11_go 31 = .ok (.ireturn, 1) := by decide +kernel
theorem dX11_go_32 : decode cX11_go 32 = .ok (.aload_n 0, 1) := by decide +kernel
theorem dX11_go_33 : decode cX11_go 33 = .ok (.getfield 19, 3) := by decide +kernel
theorem dX11_go_36 : decode cX11_go 36 = .ok (.getfield 98, 3) := by decide +kernel
theorem dX11_go_39 : decode cX11_go 39 = .ok (.iload_n 1, 1) := by decide +kernel
theorem dX11_go_40 : decode cX11_go 40 = .ok (.iaload, 1) := by decide +kernel
theorem dX11_go_41 : decode cX11_go 41 = .ok (.sipush 9000, 3) := by decide +kernel
theorem dX11_go_44 : decode cX11_go 44 = .ok (.if_icmp .gt 23, 3) := by decide +kernel
theorem dX11_go_47 : decode cX11_go 47 = .ok (.iload_n 3, 1) := by decide +kernel
theorem dX11_go_48 : decode cX11_go 48 = .ok (.iconst (-1), 1) := by decide +kernel
theorem dX11_go_49 : decode cX11_go 49 = .ok (.if_icmp .eq 21, 3) := by decide +kernel
theorem dX11_go_52 : decode cX11_go 52 = .ok (.aload_n 0, 1) := by decide +kernel
theorem dX11_go_53 : decode cX11_go 53 = .ok (.getfield 19, 3) := by decide +kernel
theorem dX11_go_56 : decode cX11_go 56 = .ok (.getfield 98, 3) := by decide +kernel
theorem dX11_go_59 : decode cX11_go 59 = .ok (.iload_n 3, 1) := by decide +kernel
theorem dX11_go_60 : decode cX11_go 60 = .ok (.iaload, 1) := by decide +kernel
theorem dX11_go_61 : decode cX11_go 61 = .ok (.sipush 9000, 3) := by decide +kernel
theorem dX11_go_64 : decode cX11_go 64 = .ok (.if_icmp .le 6, 3) := by decide +kernel
theorem dX11_go_67 : decode cX11_go 67 = .ok (.bipush (-104), 2) := by decide +kernel
theorem dX11_go_69 : decode cX11_go 69 = .ok (.ireturn, 1) := by decide +kernel
theorem dX11_go_70 : decode cX11_go 70 = .ok (.aload_n 0, 1) := by decide +kernel
theorem dX11_go_71 : decode cX11_go 71 = .ok (.getfield 19, 3) := by decide +kernel
theorem dX11_go_74 : decode cX11_go 74 = .ok (.iload_n 1, 1) := by decide +kernel
theorem dX11_go_75 : decode cX11_go 75 = .ok (.iload_n 2, 1) := by decide +kernel
theorem dX11_go_76 : decode cX11_go 76 = .ok (.iload_n 3, 1) := by decide +kernel
theorem dX11_go_77 : decode cX11_go 77 = .ok (.invokevirtual 153, 3) := by decide +kernel
theorem dX11_go_80 : decode cX11_go 80 = .ok (.ireturn, 1) := by decide +kernel
set_option maxRecDepth 20000 in
theorem ggX11_sin_X2_hasPerson : GoodIn wsX11_sin wsX2_hasPerson := goodIn_r _ [7, 8, 18, 19, 20, 21, 22, 23, 24, 25, 26, 27, 28, 29, 30, 31, 32, 33, 34, 35] (by decide +kernel) (by decide +kernel)
set_option maxRecDepth 20000 in
theorem gX11_sin_X2_hasPerson : GoodIn wsX11_sin (wsV RX11 77 RX2 yX2_hasPerson wsX2_hasPerson) := goodIn_app (goodIn_of _ (by decide +kernel)) ggX11_sin_X2_hasPerson
theorem dX11_sin_0 : decode cX11_sin 0 = .ok (.aload_n 0, 1) := by decide +kernel
theorem dX11_sin_1 : decode cX11_sin 1 = .ok (.getfield 19, 3) := by decide +kernel
theorem dX11_sin_4 : decode cX11_sin 4 = .ok (.iload_n 1, 1) := by decide +kernel
theorem dX11_sin_5 : decode cX11_sin 5 = .ok (.invokevirtual 77, 3) := by decide +kernel
theorem dX11_sin_8 : decode cX11_sin 8 = .ok (.ifCond .ne 6, 3) := by decide +kernel
theorem dX11_sin_11 : decode cX11_sin 11 = .ok (.bipush (-101), 2) := by decide +kernel
theorem dX11_sin_13 : decode cX11_sin 13 = .ok (.ireturn, 1) := by decide +kernel
theorem dX11_sin_14 : decode cX11_sin 14 = .ok (.aload_n 0, 1) := by decide +kernel
theorem dX11_sin_15 : decode cX11_sin 15 = .ok (.getfield 19, 3) := by decide +kernel
theorem dX11_sin_18 : decode cX11_sin 18 = .ok (.getfield 89, 3) := by decide +kernel
theorem dX11_sin_21 : decode cX11_sin 21 = .ok (.iload_n 1, 1) := by decide +kernel
theorem dX11_sin_22 : decode cX11_sin 22 = .ok (.iaload, 1) := by decide +kernel
theorem dX11_sin_23 : decode cX11_sin 23 = .ok (.bipush 9, 2) := by decide +kernel
theorem dX11_sin_25 : decode cX11_sin 25 = .ok (.if_icmp .lt 6, 3) := by decide +kernel
theorem dX11_sin_28 : decode cX11_sin 28 = .ok (.bipush (-104), 2) := by decide +kernel
theorem dX11_sin_30 : decode cX11_sin 30 = .ok (.ireturn, 1) := by decide +kernel
theorem dX11_sin_31 : decode cX11_sin 31 = .ok (.aload_n 0, 1) := by decide +kernel
theorem dX11_sin_32 : decode cX11_sin 32 = .ok (.getfield 19, 3) := by decide +kernel
theorem dX11_sin_35 : decode cX11_sin 35 = .ok (.getfield 89, 3) := by decide +kernel
theorem dX11_sin_38 : decode cX11_sin 38 = .ok (.iload_n 1, 1) := by decide +kernel
theorem dX11_sin_39 : decode cX11_sin 39 = .ok (.dup2, 1) := by decide +kernel
theorem dX11_sin_40 : decode cX11_sin 40 = .ok (.iaload, 1) := by decide +kernel
theorem dX11_sin_41 : decode cX11_sin 41 = .ok (.iconst 1, 1) := by decide +kernel
theorem dX11_sin_42 : decode cX11_sin 42 = .ok (.iadd, 1) := by decide +kernel
theorem dX11_sin_43 : decode cX11_sin 43 = .ok (.iastore, 1) := by decide +kernel
theorem dX11_sin_44 : decode cX11_sin 44 = .ok (.aload_n 0, 1) := by decide +kernel
theorem dX11_sin_45 : decode cX11_sin 45 = .ok (.getfield 19, 3) := by decide +kernel
theorem dX11_sin_48 : decode cX11_sin 48 = .ok (.getfield 89, 3) := by decide +kernel
theorem dX11_sin_51 : decode cX11_sin 51 = .ok (.iload_n 1, 1) := by decide +kernel
theorem dX11_sin_52 : decode cX11_sin 52 = .ok (.iaload, 1) := by decide +kernel
theorem dX11_sin_53 : decode cX11_sin 53 = .ok (.ireturn, 1) := by decide +kernel
set_option maxRecDepth 20000 in
theorem ggX11_lie_X2_hasPerson : GoodIn wsX11_lie wsX2_hasPerson := goodIn_r _ [7, 8, 18, 19, 20, 21, 22, 23, 24, 25, 26, 27, 28, 29, 30, 31, 32, 33, 34, 35] (by decide +kernel) (by decide +kernel)
set_option maxRecDepth 20000 in
theorem gX11_lie_X2_hasPerson : GoodIn wsX11_lie (wsV RX11 77 RX2 yX2_hasPerson wsX2_hasPerson) := goodIn_app (goodIn_of _ (by decide +kernel)) ggX11_lie_X2_hasPerson
theorem dX11_lie_0 : decode cX11_lie 0 = .ok (.aload_n 0, 1) := by decide +kernel
theorem dX11_lie_1 : decode cX11_lie 1 = .ok (.getfield 19, 3) := by decide +kernel
theorem dX11_lie_4 : decode cX11_lie 4 = .ok (.iload_n 1, 1) := by decide +kernel
theorem dX11_lie_5 : decode cX11_lie 5 = .ok (.invokevirtual 77, 3) := by decide +kernel
theorem dX11_lie_8 : decode cX11_lie 8 = .ok (.ifCond .ne 6, 3) := by decide +kernel
theorem dX11_lie_11 : decode cX11_lie 11 = .ok (.bipush (-101), 2) := by decide +kernel
theorem dX11_lie_13 : decode cX11_lie 13 = .ok (.ireturn, 1) := by decide +kernel
theorem dX11_lie_14 : decode cX11_lie 14 = .ok (.aload_n 0, 1) := by decide +kernel
theorem dX11_lie_15 : decode cX11_lie 15 = .ok (.getfield 19, 3) := by decide +kernel
theorem dX11_lie_18 : decode cX11_lie 18 = .ok (.getfield 92, 3) := by decide +kernel
theorem dX11_lie_21 : decode cX11_lie 21 = .ok (.iload_n 1, 1) := by decide +kernel
theorem dX11_lie_22 : decode cX11_lie 22 = .ok (.iaload, 1) := by decide +kernel
theorem dX11_lie_23 : decode cX11_lie 23 = .ok (.bipush 9, 2) := by decide +kernel
theorem dX11_lie_25 : decode cX11_lie 25 = .ok (.if_icmp .lt 6, 3) := by decide +kernel
theorem dX11_lie_28 : decode cX11_lie 28 = .ok (.bipush (-104), 2) := by decide +kernel
theorem dX11_lie_30 : decode cX11_lie 30 = .ok (.ireturn, 1) := by decide +kernel
theorem dX11_lie_31 : decode cX11_lie 31 = .ok (.aload_n 0, 1) := by decide +kernel
theorem dX11_lie_32 : decode cX11_lie 32 = .ok (.getfield 19, 3) := by decide +kernel
theorem dX11_lie_35 : decode cX11_lie 35 = .ok (.getfield 92, 3) := by decide +kernel
theorem dX11_lie_38 : decode cX11_lie 38 = .ok (.iload_n 1, 1) := by decide +kernel
theorem dX11_lie_39 : decode cX11_lie 39 = .ok (.dup2, 1) := by decide +kernel
theorem dX11_lie_40 : decode cX11_lie 40 = .ok (.iaload, 1) := by decide +kernel
theorem dX11_lie_41 : decode cX11_lie 41 = .ok (.iconst 1, 1) := by decide +kernel
theorem dX11_lie_42 : decode cX11_lie 42 = .ok (.iadd, 1) := by decide +kernel
theorem dX11_lie_43 : decode cX11_lie 43 = .ok (.iastore, 1) := by decide +kernel
theorem dX11_lie_44 : decode cX11_lie 44 = .ok (.aload_n 0, 1) := by decide +kernel
theorem dX11_lie_45 : decode cX11_lie 45 = .ok (.getfield 19, 3) := by decide +kernel
theorem dX11_lie_48 : decode cX11_lie 48 = .ok (.getfield 92, 3) := by decide +kernel
theorem dX11_lie_51 : decode cX11_lie 51 = .ok (.iload_n 1, 1) := by decide +kernel
theorem dX11_lie_52 : decode cX11_lie 52 = .ok (.iaload, 1) := by decide +kernel
theorem dX11_lie_53 : decode cX11_lie 53 = .ok (.ireturn, 1) := by decide +kernel
set_option maxRecDepth 20000 in
theorem ggX11_confess_X2_hasPerson : GoodIn wsX11_confess wsX2_hasPerson := goodIn_r _ [7, 8, 18, 19, 20, 21, 22, 23, 24, 25, 26, 27, 28, 29, 30, 31, 32, 33, 34, 35] (by decide +kernel) (by decide +kernel)
set_option maxRecDepth 20000 in
theorem gX11_confess_X2_hasPerson : GoodIn wsX11_confess (wsV RX11 77 RX2 yX2_hasPerson wsX2_hasPerson) := goodIn_app (goodIn_of _ (by decide +kernel)) ggX11_confess_X2_hasPerson
theorem dX11_confess_0 : decode cX11_confess 0 = .ok (.aload_n 0, 1) := by decide +kernel
theorem dX11_confess_1 : decode cX11_confess 1 = .ok (.getfield 19, 3) := by decide +kernel
theorem dX11_confess_4 : decode cX11_confess 4 = .ok (.iload_n 1, 1) := by decide +kernel
theorem dX11_confess_5 : decode cX11_confess 5 = .ok (.invokevirtual 77, 3) := by decide +kernel
theorem dX11_confess_8 : decode cX11_confess 8 = .ok (.ifCond .ne 6, 3) := by decide +kernel
theorem dX11_confess_11 : decode cX11_confess 11 = .ok (.bipush (-101), 2) := by decide +kernel
theorem dX11_confess_13 : decode cX11_confess 13 = .ok (.ireturn, 1) := by decide +kernel
theorem dX11_confess_14 : decode cX11_confess 14 = .ok (.aload_n 0, 1) := by decide +kernel
theorem dX11_confess_15 : decode cX11_confess 15 = .ok (.getfield 19, 3) := by decide +kernel
theorem dX11_confess_18 : decode cX11_confess 18 = .ok (.getfield 89, 3) := by decide +kernel
theorem dX11_confess_21 : decode cX11_confess 21 = .ok (.iload_n 1, 1) := by decide +kernel
theorem dX11_confess_22 : decode cX11_confess 22 = .ok (.iaload, 1) := by decide +kernel
theorem dX11_confess_23 : decode cX11_confess 23 = .ok (.ifCond .gt 6, 3) := by decide +kernel
theorem dX11_confess_26 : decode cX11_confess 26 = .ok (.bipush (-103), 2) := by decide +kernel
theorem dX11_confess_28 : decode cX11_confess 28 = .ok (.ireturn, 1) := by decide +kernel
theorem dX11_confess_29 : decode cX11_confess 29 = .ok (.aload_n 0, 1) := by decide +kernel
theorem dX11_confess_30 : decode cX11_confess 30 = .ok (.getfield 19, 3) := by decide +kernel
theorem dX11_confess_33 : decode cX11_confess 33 = .ok (.getfield 89, 3) := by decide +kernel
theorem dX11_confess_36 : decode cX11_confess 36 = .ok (.iload_n 1, 1) := by decide +kernel
theorem dX11_confess_37 : decode cX11_confess 37 = .ok (.dup2, 1) := by decide +kernel
theorem dX11_confess_38 : decode cX11_confess 38 = .ok (.iaload, 1) := by decide +kernel
theorem dX11_confess_39 : decode cX11_confess 39 = .ok (.iconst 1, 1) := by decide +kernel
theorem dX11_confess_40 : decode cX11_confess 40 = .ok (.isub, 1) := by decide +kernel
theorem dX11_confess_41 : decode cX11_confess 41 = .ok (.iastore, 1) := by decide +kernel
theorem dX11_confess_42 : decode cX11_confess 42 = .ok (.aload_n 0, 1) := by decide +kernel
theorem dX11_confess_43 : decode cX11_confess 43 = .ok (.getfield 19, 3) := by decide +kernel
theorem dX11_confess_46 : decode cX11_confess 46 = .ok (.getfield 89, 3) := by decide +kernel
theorem dX11_confess_49 : decode cX11_confess 49 = .ok (.iload_n 1, 1) := by decide +kernel
theorem dX11_confess_50 : decode cX11_confess 50 = .ok (.iaload, 1) := by decide +kernel
theorem dX11_confess_51 : decode cX11_confess 51 = .ok (.ireturn, 1) := by decide +kernel
set_option maxRecDepth 20000 in
theorem ggX11_carpet_X2_hasPassage : GoodIn wsX11_carpet wsX2_hasPassage := goodIn_r _ [7, 8, 18, 19, 20, 21, 22, 23, 24, 25, 26, 27, 28, 29, 30, 31, 32, 33, 34, 35] (by decide +kernel) (by decide +kernel)
set_option maxRecDepth 20000 in
theorem gX11_carpet_X2_hasPassage : GoodIn wsX11_carpet (wsV RX11 127 RX2 yX2_hasPassage wsX2_hasPassage) := goodIn_app (goodIn_of _ (by decide +kernel)) ggX11_carpet_X2_hasPassage
theorem dX11_carpet_0 : decode cX11_carpet 0 = .ok (.aload_n 0, 1) := by decide +kernel
theorem dX11_carpet_1 : decode cX11_carpet 1 = .ok (.getfield 19, 3) := by decide +kernel
theorem dX11_carpet_4 : decode cX11_carpet 4 = .ok (.iload_n 1, 1) := by decide +kernel
theorem dX11_carpet_5 : decode cX11_carpet 5 = .ok (.invokevirtual 127, 3) := by decide +kernel
theorem dX11_carpet_8 : decode cX11_carpet 8 = .ok (.ifCond .ne 6, 3) := by decide +kernel
theorem dX11_carpet_11 : decode cX11_carpet 11 = .ok (.bipush (-101), 2) := by decide +kernel
theorem dX11_carpet_13 : decode cX11_carpet 13 = .ok (.ireturn, 1) := by decide +kernel
theorem dX11_carpet_14 : decode cX11_carpet 14 = .ok (.iload_n 2, 1) := by decide +kernel
theorem dX11_carpet_15 : decode cX11_carpet 15 = .ok (.iconst 1, 1) := by decide +kernel
theorem dX11_carpet_16 : decode cX11_carpet 16 = .ok (.if_icmp .lt 9, 3) := by decide +kernel
theorem dX11_carpet_19 : decode cX11_carpet 19 = .ok (.iload_n 2, 1) := by decide +kernel
theorem dX11_carpet_20 : decode cX11_carpet 20 = .ok (.bipush 9, 2) := by decide +kernel
theorem dX11_carpet_22 : decode cX11_carpet 22 = .ok (.if_icmp .le 6, 3) := by decide +kernel
theorem dX11_carpet_25 : decode cX11_carpet 25 = .ok (.bipush (-102), 2) := by decide +kernel
theorem dX11_carpet_27 : decode cX11_carpet 27 = .ok (.ireturn, 1) := by decide +kernel
theorem dX11_carpet_28 : decode cX11_carpet 28 = .ok (.aload_n 0, 1) := by decide +kernel
theorem dX11_carpet_29 : decode cX11_carpet 29 = .ok (.getfield 19, 3) := by decide +kernel
theorem dX11_carpet_32 : decode cX11_carpet 32 = .ok (.getfield 139, 3) := by decide +kernel
theorem dX11_carpet_35 : decode cX11_carpet 35 = .ok (.iload_n 1, 1) := by decide +kernel
theorem dX11_carpet_36 : decode cX11_carpet 36 = .ok (.iaload, 1) := by decide +kernel
theorem dX11_carpet_37 : decode cX11_carpet 37 = .ok (.istore_n 3, 1) := by decide +kernel
theorem dX11_carpet_38 : decode cX11_carpet 38 = .ok (.aload_n 0, 1) := by decide +kernel
theorem dX11_carpet_39 : decode cX11_carpet 39 = .ok (.getfield 19, 3) := by decide +kernel
theorem dX11_carpet_42 : decode cX11_carpet 42 = .ok (.getfield 139, 3) := by decide +kernel
theorem dX11_carpet_45 : decode cX11_carpet 45 = .ok (.iload_n 1, 1) := by decide +kernel
theorem dX11_carpet_46 : decode cX11_carpet 46 = .ok (.iload_n 2, 1) := by decide +kernel
theorem dX11_carpet_47 : decode cX11_carpet 47 = .ok (.iastore, 1) := by decide +kernel
theorem dX11_carpet_48 : decode cX11_carpet 48 = .ok (.iload_n 3, 1) := by decide +kernel
theorem dX11_carpet_49 : decode cX11_carpet 49 = .ok (.ireturn, 1) := by decide +kernel
set_option maxRecDepth 20000 in
theorem ggX11_far_X2_hasPerson : GoodIn wsX11_far wsX2_hasPerson := goodIn_r _ [7, 8, 113, 114, 115, 116, 117, 118, 119, 120, 121, 122, 123, 124, 125, 126, 127, 128, 129, 130] (by decide +kernel) (by decide +kernel)
set_option maxRecDepth 20000 in
theorem gX11_far_X2_hasPerson : GoodIn wsX11_far (wsV RX11 77 RX2 yX2_hasPerson wsX2_hasPerson) := goodIn_app (goodIn_of _ (by decide +kernel)) ggX11_far_X2_hasPerson
set_option maxRecDepth 20000 in
theorem ggX11_far_X2_hasRoom : GoodIn wsX11_far wsX2_hasRoom := goodIn_r _ [12, 13, 113, 114, 115, 116, 117, 118, 119, 120, 121, 122, 123, 124, 125, 126, 127, 128, 129, 130] (by decide +kernel) (by decide +kernel)
set_option maxRecDepth 20000 in
theorem gX11_far_X2_hasRoom : GoodIn wsX11_far (wsV RX11 156 RX2 yX2_hasRoom wsX2_hasRoom) := goodIn_app (goodIn_of _ (by decide +kernel)) ggX11_far_X2_hasRoom
set_option maxRecDepth 20000 in
theorem ggX11_far_X9_measure : GoodIn wsX11_far wsX9_measure := goodIn_r _ [18, 19, 20, 21, 22, 23, 24, 25, 26, 27, 28, 6, 29, 30, 31, 32, 33, 34, 35, 36, 37, 38, 39, 40, 41, 42, 43, 44, 45, 46, 47, 48, 49, 50, 51, 52, 53, 54, 55, 56, 57, 58, 59, 60, 61, 62, 63, 64, 65, 66, 67, 68, 69, 70, 71, 72, 73, 74, 75, 76, 17, 77, 78, 79, 80, 81, 113, 114, 115, 116, 117, 118, 119, 120, 121, 122, 123, 124, 125, 126, 127, 128, 129, 130, 131, 132, 133, 134, 135, 136] (by decide +kernel) (by decide +kernel)
set_option maxRecDepth 20000 in
theorem gX11_far_X9_measure : GoodIn wsX11_far (wsV RX11 159 RX9 yX9_measure wsX9_measure) := goodIn_app (goodIn_of _ (by decide +kernel)) ggX11_far_X9_measure
set_option maxRecDepth 20000 in
theorem ggX11_far_X9_stepsFrom : GoodIn wsX11_far wsX9_stepsFrom := goodIn_r _ [85, 21, 22, 131, 132, 133, 134, 135, 136] (by decide +kernel) (by decide +kernel)
set_option maxRecDepth 20000 in
theorem gX11_far_X9_stepsFrom : GoodIn wsX11_far (wsV RX11 163 RX9 yX9_stepsFrom wsX9_stepsFrom) := goodIn_app (goodIn_of _ (by decide +kernel)) ggX11_far_X9_stepsFrom
set_option maxRecDepth 20000 in
theorem ggX11_far_X9_legFrom : GoodIn wsX11_far wsX9_legFrom := goodIn_r _ [89, 90, 91, 92, 17, 93, 19, 20, 21, 94, 95, 96, 6, 97, 98, 99, 100, 101, 102, 103, 113, 114, 115, 116, 117, 118, 119, 120, 121, 122, 123, 124, 125, 126, 127, 128, 129, 130, 131, 132, 133, 134, 135, 136] (by decide +kernel) (by decide +kernel)
set_option maxRecDepth 20000 in
theorem gX11_far_X9_legFrom : GoodIn wsX11_far (wsV RX11 167 RX9 yX9_legFrom wsX9_legFrom) := goodIn_app (goodIn_of _ (by decide +kernel)) ggX11_far_X9_legFrom
theorem dX11_far_0 : decode cX11_far 0 = .ok (.aload_n 0, 1) := by decide +kernel
theorem dX11_far_1 : decode cX11_far 1 = .ok (.getfield 19, 3) := by decide +kernel
theorem dX11_far_4 : decode cX11_far 4 = .ok (.iload_n 1, 1) := by decide +kernel
theorem dX11_far_5 : decode cX11_far 5 = .ok (.invokevirtual 77, 3) := by decide +kernel
theorem dX11_far_8 : decode cX11_far 8 = .ok (.ifCond .eq 25, 3) := by decide +kernel
theorem dX11_far_11 : decode cX11_far 11 = .ok (.aload_n 0, 1) := by decide +kernel
theorem dX11_far_12 : decode cX11_far 12 = .ok (.getfield 19, 3) := by decide +kernel
theorem dX11_far_15 : decode cX11_far 15 = .ok (.iload_n 2, 1) := by decide +kernel
theorem dX11_far_16 : decode cX11_far 16 = .ok (.invokevirtual 156, 3) := by decide +kernel
theorem dX11_far_19 : decode cX11_far 19 = .ok (.ifCond .eq 14, 3) := by decide +kernel
theorem dX11_far_22 : decode cX11_far 22 = .ok (.aload_n 0, 1) := by decide +kernel
theorem dX11_far_23 : decode cX11_far 23 = .ok (.getfield 19, 3) := by decide +kernel
theorem dX11_far_26 : decode cX11_far 26 = .ok (.iload_n 3, 1) := by decide +kernel
theorem dX11_far_27 : decode cX11_far 27 = .ok (.invokevirtual 156, 3) := by decide +kernel
theorem dX11_far_30 : decode cX11_far 30 = .ok (.ifCond .ne 6, 3) := by decide +kernel
theorem dX11_far_33 : decode cX11_far 33 = .ok (.bipush (-101), 2) := by decide +kernel
theorem dX11_far_35 : decode cX11_far 35 = .ok (.ireturn, 1) := by decide +kernel
theorem dX11_far_36 : decode cX11_far 36 = .ok (.iload 4, 2) := by decide +kernel
theorem dX11_far_38 : decode cX11_far 38 = .ok (.ifCond .eq 20, 3) := by decide +kernel
theorem dX11_far_41 : decode cX11_far 41 = .ok (.iload 4, 2) := by decide +kernel
theorem dX11_far_43 : decode cX11_far 43 = .ok (.bipush 10, 2) := by decide +kernel
theorem dX11_far_45 : decode cX11_far 45 = .ok (.if_icmp .lt 10, 3) := by decide +kernel
theorem dX11_far_48 : decode cX11_far 48 = .ok (.iload 4, 2) := by decide +kernel
theorem dX11_far_50 : decode cX11_far 50 = .ok (.bipush 13, 2) := by decide +kernel
theorem dX11_far_52 : decode cX11_far 52 = .ok (.if_icmp .le 6, 3) := by decide +kernel
theorem dX11_far_55 : decode cX11_far 55 = .ok (.bipush (-102), 2) := by decide +kernel
theorem dX11_far_57 : decode cX11_far 57 = .ok (.ireturn, 1) := by decide +kernel
theorem dX11_far_58 : decode cX11_far 58 = .ok (.aload_n 0, 1) := by decide +kernel
theorem dX11_far_59 : decode cX11_far 59 = .ok (.getfield 29, 3) := by decide +kernel
theorem dX11_far_62 : decode cX11_far 62 = .ok (.aload_n 0, 1) := by decide +kernel
theorem dX11_far_63 : decode cX11_far 63 = .ok (.getfield 19, 3) := by decide +kernel
theorem dX11_far_66 : decode cX11_far 66 = .ok (.iload_n 1, 1) := by decide +kernel
theorem dX11_far_67 : decode cX11_far 67 = .ok (.iload_n 3, 1) := by decide +kernel
theorem dX11_far_68 : decode cX11_far 68 = .ok (.invokevirtual 159, 3) := by decide +kernel
theorem dX11_far_71 : decode cX11_far 71 = .ok (.iload 4, 2) := by decide +kernel
theorem dX11_far_73 : decode cX11_far 73 = .ok (.ifCond .ne 14, 3) := by decide +kernel
theorem dX11_far_76 : decode cX11_far 76 = .ok (.aload_n 0, 1) := by decide +kernel
theorem dX11_far_77 : decode cX11_far 77 = .ok (.getfield 29, 3) := by decide +kernel
theorem dX11_far_80 : decode cX11_far 80 = .ok (.iload_n 2, 1) := by decide +kernel
theorem dX11_far_81 : decode cX11_far 81 = .ok (.invokevirtual 163, 3) := by decide +kernel
theorem dX11_far_84 : decode cX11_far 84 = .ok (.goto 20, 3) := by decide +kernel
theorem dX11_far_87 : decode cX11_far 87 = .ok (.aload_n 0, 1) := by decide +kernel
theorem dX11_far_88 : decode cX11_far 88 = .ok (.getfield 29, 3) := by decide +kernel
theorem dX11_far_91 : decode cX11_far 91 = .ok (.aload_n 0, 1) := by decide +kernel
theorem dX11_far_92 : decode cX11_far 92 = .ok (.getfield 19, 3) := by decide +kernel
theorem dX11_far_95 : decode cX11_far 95 = .ok (.iload_n 2, 1) := by decide +kernel
theorem dX11_far_96 : decode cX11_far 96 = .ok (.iload 4, 2) := by decide +kernel
theorem dX11_far_98 : decode cX11_far 98 = .ok (.bipush 10, 2) := by decide +kernel
theorem dX11_far_100 : decode cX11_far 100 = .ok (.isub, 1) := by decide +kernel
theorem dX11_far_101 : decode cX11_far 101 = .ok (.invokevirtual 167, 3) := by decide +kernel
theorem dX11_far_104 : decode cX11_far 104 = .ok (.ireturn, 1) := by decide +kernel
set_option maxRecDepth 20000 in
theorem ggX11_send_X2_isThere : GoodIn wsX11_send wsX2_isThere := goodIn_r _ [8, 9, 116, 117, 118, 119, 120, 121, 122, 123, 124, 125, 126, 127, 128, 129, 130, 131, 132, 133] (by decide +kernel) (by decide +kernel)
set_option maxRecDepth 20000 in
theorem gX11_send_X2_isThere : GoodIn wsX11_send (wsV RX11 170 RX2 yX2_isThere wsX2_isThere) := goodIn_app (goodIn_of _ (by decide +kernel)) ggX11_send_X2_isThere
set_option maxRecDepth 20000 in
theorem ggX11_send_X9_assign : GoodIn wsX11_send wsX9_assign := goodIn_r _ [14, 15, 16, 17, 18, 19, 20, 21, 22, 23, 24, 25, 26, 27, 13, 28, 29, 30, 31, 32, 33, 34, 35, 36, 7, 37, 38, 39, 40, 41, 42, 43, 44, 45, 46, 47, 48, 49, 50, 51, 52, 53, 54, 55, 56, 57, 58, 59, 60, 61, 62, 63, 64, 65, 66, 67, 68, 69, 70, 71, 72, 73, 74, 75, 76, 77, 78, 79, 80, 81, 82, 83, 84, 85, 86, 87, 88, 89, 90, 91, 92, 93, 94, 116, 117, 118, 119, 120, 121, 122, 123, 124, 125, 126, 127, 128, 129, 130, 131, 132, 133, 134, 135, 136, 137, 138, 139] (by decide +kernel) (by decide +kernel)
set_option maxRecDepth 20000 in
theorem gX11_send_X9_assign : GoodIn wsX11_send (wsV RX11 176 RX9 yX9_assign wsX9_assign) := goodIn_app (goodIn_of _ (by decide +kernel)) ggX11_send_X9_assign
set_option maxRecDepth 20000 in
theorem ggX11_send_X9_assignedSteps : GoodIn wsX11_send wsX9_assignedSteps := goodIn_r _ [98, 24, 23, 134, 135, 136, 137, 138, 139] (by decide +kernel) (by decide +kernel)
set_option maxRecDepth 20000 in
theorem gX11_send_X9_assignedSteps : GoodIn wsX11_send (wsV RX11 180 RX9 yX9_assignedSteps wsX9_assignedSteps) := goodIn_app (goodIn_of _ (by decide +kernel)) ggX11_send_X9_assignedSteps
set_option maxRecDepth 20000 in
theorem ggX11_send_X9_assignedTo : GoodIn wsX11_send wsX9_assignedTo := goodIn_r _ [102, 24, 23, 94, 103, 104, 105, 7, 106, 9, 134, 135, 136, 137, 138, 139, 116, 117, 118, 119, 120, 121, 122, 123, 124, 125, 126, 127, 128, 129, 130, 131, 132, 133] (by decide +kernel) (by decide +kernel)
set_option maxRecDepth 20000 in
theorem gX11_send_X9_assignedTo : GoodIn wsX11_send (wsV RX11 183 RX9 yX9_assignedTo wsX9_assignedTo) := goodIn_app (goodIn_of _ (by decide +kernel)) ggX11_send_X9_assignedTo
theorem dX11_send_0 : decode cX11_send 0 = .ok (.iload_n 1, 1) := by decide +kernel
theorem dX11_send_1 : decode cX11_send 1 = .ok (.ifCond .eq 18, 3) := by decide +kernel
theorem dX11_send_4 : decode cX11_send 4 = .ok (.iload_n 1, 1) := by decide +kernel
theorem dX11_send_5 : decode cX11_send 5 = .ok (.bipush 11, 2) := by decide +kernel
theorem dX11_send_7 : decode cX11_send 7 = .ok (.if_icmp .lt 9, 3) := by decide +kernel
theorem dX11_send_10 : decode cX11_send 10 = .ok (.iload_n 1, 1) := by decide +kernel
theorem dX11_send_11 : decode cX11_send 11 = .ok (.bipush 14, 2) := by decide +kernel
theorem dX11_send_13 : decode cX11_send 13 = .ok (.if_icmp .le 6, 3) := by decide +kernel
theorem dX11_send_16 : decode cX11_send 16 = .ok (.bipush (-102), 2) := by decide +kernel
theorem dX11_send_18 : decode cX11_send 18 = .ok (.ireturn, 1) := by decide +kernel
theorem dX11_send_19 : decode cX11_send 19 = .ok (.aload_n 0, 1) := by decide +kernel
theorem dX11_send_20 : decode cX11_send 20 = .ok (.getfield 19, 3) := by decide +kernel
theorem dX11_send_23 : decode cX11_send 23 = .ok (.invokevirtual 170, 3) := by decide +kernel
theorem dX11_send_26 : decode cX11_send 26 = .ok (.ifCond .eq 12, 3) := by decide +kernel
theorem dX11_send_29 : decode cX11_send 29 = .ok (.aload_n 0, 1) := by decide +kernel
theorem dX11_send_30 : decode cX11_send 30 = .ok (.getfield 173, 3) := by decide +kernel
theorem dX11_send_33 : decode cX11_send 33 = .ok (.bipush 30, 2) := by decide +kernel
theorem dX11_send_35 : decode cX11_send 35 = .ok (.if_icmp .lt 6, 3) := by decide +kernel
theorem dX11_send_38 : decode cX11_send 38 = .ok (.bipush (-103), 2) := by decide +kernel
theorem dX11_send_40 : decode cX11_send 40 = .ok (.ireturn, 1) := by decide +kernel
theorem dX11_send_41 : decode cX11_send 41 = .ok (.aload_n 0, 1) := by decide +kernel
theorem dX11_send_42 : decode cX11_send 42 = .ok (.dup, 1) := by decide +kernel
theorem dX11_send_43 : decode cX11_send 43 = .ok (.getfield 173, 3) := by decide +kernel
theorem dX11_send_46 : decode cX11_send 46 = .ok (.iconst 1, 1) := by decide +kernel
theorem dX11_send_47 : decode cX11_send 47 = .ok (.iadd, 1) := by decide +kernel
theorem dX11_send_48 : decode cX11_send 48 = .ok (.putfield 173, 3) := by decide +kernel
theorem dX11_send_51 : decode cX11_send 51 = .ok (.aload_n 0, 1) := by decide +kernel
theorem dX11_send_52 : decode cX11_send 52 = .ok (.getfield 29, 3) := by decide +kernel
theorem dX11_send_55 : decode cX11_send 55 = .ok (.aload_n 0, 1) := by decide +kernel
theorem dX11_send_56 : decode cX11_send 56 = .ok (.getfield 19, 3) := by decide +kernel
theorem dX11_send_59 : decode cX11_send 59 = .ok (.invokevirtual 176, 3) := by decide +kernel
theorem dX11_send_62 : decode cX11_send 62 = .ok (.iload_n 1, 1) := by decide +kernel
theorem dX11_send_63 : decode cX11_send 63 = .ok (.ifCond .ne 13, 3) := by decide +kernel
theorem dX11_send_66 : decode cX11_send 66 = .ok (.aload_n 0, 1) := by decide +kernel
theorem dX11_send_67 : decode cX11_send 67 = .ok (.getfield 29, 3) := by decide +kernel
theorem dX11_send_70 : decode cX11_send 70 = .ok (.invokevirtual 180, 3) := by decide +kernel
theorem dX11_send_73 : decode cX11_send 73 = .ok (.goto 18, 3) := by decide +kernel
theorem dX11_send_76 : decode cX11_send 76 = .ok (.aload_n 0, 1) := by decide +kernel
theorem dX11_send_77 : decode cX11_send 77 = .ok (.getfield 29, 3) := by decide +kernel
theorem dX11_send_80 : decode cX11_send 80 = .ok (.aload_n 0, 1) := by decide +kernel
theorem dX11_send_81 : decode cX11_send 81 = .ok (.getfield 19, 3) := by decide +kernel
theorem dX11_send_84 : decode cX11_send 84 = .ok (.iload_n 1, 1) := by decide +kernel
theorem dX11_send_85 : decode cX11_send 85 = .ok (.bipush 10, 2) := by decide +kernel
theorem dX11_send_87 : decode cX11_send 87 = .ok (.isub, 1) := by decide +kernel
theorem dX11_send_88 : decode cX11_send 88 = .ok (.invokevirtual 183, 3) := by decide +kernel
theorem dX11_send_91 : decode cX11_send 91 = .ok (.ireturn, 1) := by decide +kernel
set_option maxRecDepth 20000 in
theorem ggX11_pairs_X2_hasPassage : GoodIn wsX11_pairs wsX2_hasPassage := goodIn_r _ [8, 9, 118, 119, 120, 121, 122, 123, 124, 125, 126, 127, 128, 129, 130, 131, 132, 133, 134, 135] (by decide +kernel) (by decide +kernel)
set_option maxRecDepth 20000 in
theorem gX11_pairs_X2_hasPassage : GoodIn wsX11_pairs (wsV RX11 127 RX2 yX2_hasPassage wsX2_hasPassage) := goodIn_app (goodIn_of _ (by decide +kernel)) ggX11_pairs_X2_hasPassage
set_option maxRecDepth 20000 in
theorem ggX11_pairs_X6_arrange : GoodIn wsX11_pairs wsX6_arrange := goodIn_r _ [14, 15, 16, 17, 18, 19, 20, 21, 22, 23, 7, 24, 25, 26, 27, 28, 29, 30, 31, 32, 33, 34, 35, 36, 37, 38, 39, 40, 41, 42, 43, 44, 45, 46, 47, 48, 49, 50, 51, 52, 53, 54, 55, 56, 57, 58, 59, 60, 61, 62, 63, 64, 65, 66, 67, 68, 69, 70, 71, 72, 73, 74, 13, 75, 76, 77, 78, 79, 80, 81, 82, 83, 84, 85, 86, 87, 88, 89, 90, 91, 92, 93, 118, 119, 120, 121, 122, 123, 124, 125, 126, 127, 128, 129, 130, 131, 132, 133, 134, 135, 112, 113, 114, 115, 116, 117] (by decide +kernel) (by decide +kernel)
set_option maxRecDepth 20000 in
theorem gX11_pairs_X6_arrange : GoodIn wsX11_pairs (wsV RX11 186 RX6 yX6_arrange wsX6_arrange) := goodIn_app (goodIn_of _ (by decide +kernel)) ggX11_pairs_X6_arrange
set_option maxRecDepth 20000 in
theorem ggX11_pairs_X6_partnerOf : GoodIn wsX11_pairs wsX6_partnerOf := goodIn_r _ [97, 89, 98, 99, 100, 7, 101, 102, 112, 113, 114, 115, 116, 117, 118, 119, 120, 121, 122, 123, 124, 125, 126, 127, 128, 129, 130, 131, 132, 133, 134, 135] (by decide +kernel) (by decide +kernel)
set_option maxRecDepth 20000 in
theorem gX11_pairs_X6_partnerOf : GoodIn wsX11_pairs (wsV RX11 193 RX6 yX6_partnerOf wsX6_partnerOf) := goodIn_app (goodIn_of _ (by decide +kernel)) ggX11_pairs_X6_partnerOf
theorem dX11_pairs_0 : decode cX11_pairs 0 = .ok (.aload_n 0, 1) := by decide +kernel
theorem dX11_pairs_1 : decode cX11_pairs 1 = .ok (.getfield 19, 3) := by decide +kernel
theorem dX11_pairs_4 : decode cX11_pairs 4 = .ok (.iload_n 1, 1) := by decide +kernel
theorem dX11_pairs_5 : decode cX11_pairs 5 = .ok (.invokevirtual 127, 3) := by decide +kernel
theorem dX11_pairs_8 : decode cX11_pairs 8 = .ok (.ifCond .ne 6, 3) := by decide +kernel
theorem dX11_pairs_11 : decode cX11_pairs 11 = .ok (.bipush (-101), 2) := by decide +kernel
theorem dX11_pairs_13 : decode cX11_pairs 13 = .ok (.ireturn, 1) := by decide +kernel
theorem dX11_pairs_14 : decode cX11_pairs 14 = .ok (.iload_n 2, 1) := by decide +kernel
theorem dX11_pairs_15 : decode cX11_pairs 15 = .ok (.ifCond .eq 18, 3) := by decide +kernel
theorem dX11_pairs_18 : decode cX11_pairs 18 = .ok (.iload_n 2, 1) := by decide +kernel
theorem dX11_pairs_19 : decode cX11_pairs 19 = .ok (.bipush 10, 2) := by decide +kernel
theorem dX11_pairs_21 : decode cX11_pairs 21 = .ok (.if_icmp .lt 9, 3) := by decide +kernel
theorem dX11_pairs_24 : decode cX11_pairs 24 = .ok (.iload_n 2, 1) := by decide +kernel
theorem dX11_pairs_25 : decode cX11_pairs 25 = .ok (.bipush 14, 2) := by decide +kernel
theorem dX11_pairs_27 : decode cX11_pairs 27 = .ok (.if_icmp .le 6, 3) := by decide +kernel
theorem dX11_pairs_30 : decode cX11_pairs 30 = .ok (.bipush (-102), 2) := by decide +kernel
theorem dX11_pairs_32 : decode cX11_pairs 32 = .ok (.ireturn, 1) := by decide +kernel
theorem dX11_pairs_33 : decode cX11_pairs 33 = .ok (.aload_n 0, 1) := by decide +kernel
theorem dX11_pairs_34 : decode cX11_pairs 34 = .ok (.getfield 36, 3) := by decide +kernel
theorem dX11_pairs_37 : decode cX11_pairs 37 = .ok (.aload_n 0, 1) := by decide +kernel
theorem dX11_pairs_38 : decode cX11_pairs 38 = .ok (.getfield 19, 3) := by decide +kernel
theorem dX11_pairs_41 : decode cX11_pairs 41 = .ok (.iload_n 1, 1) := by decide +kernel
theorem dX11_pairs_42 : decode cX11_pairs 42 = .ok (.invokevirtual 186, 3) := by decide +kernel
theorem dX11_pairs_45 : decode cX11_pairs 45 = .ok (.iload_n 2, 1) := by decide +kernel
theorem dX11_pairs_46 : decode cX11_pairs 46 = .ok (.ifCond .ne 13, 3) := by decide +kernel
theorem dX11_pairs_49 : decode cX11_pairs 49 = .ok (.aload_n 0, 1) := by decide +kernel
theorem dX11_pairs_50 : decode cX11_pairs 50 = .ok (.getfield 36, 3) := by decide +kernel
theorem dX11_pairs_53 : decode cX11_pairs 53 = .ok (.getfield 190, 3) := by decide +kernel
theorem dX11_pairs_56 : decode cX11_pairs 56 = .ok (.goto 18, 3) := by decide +kernel
theorem dX11_pairs_59 : decode cX11_pairs 59 = .ok (.aload_n 0, 1) := by decide +kernel
theorem dX11_pairs_60 : decode cX11_pairs 60 = .ok (.getfield 36, 3) := by decide +kernel
theorem dX11_pairs_63 : decode cX11_pairs 63 = .ok (.aload_n 0, 1) := by decide +kernel
theorem dX11_pairs_64 : decode cX11_pairs 64 = .ok (.getfield 19, 3) := by decide +kernel
theorem dX11_pairs_67 : decode cX11_pairs 67 = .ok (.iload_n 2, 1) := by decide +kernel
theorem dX11_pairs_68 : decode cX11_pairs 68 = .ok (.bipush 10, 2) := by decide +kernel
theorem dX11_pairs_70 : decode cX11_pairs 70 = .ok (.isub, 1) := by decide +kernel
theorem dX11_pairs_71 : decode cX11_pairs 71 = .ok (.invokevirtual 193, 3) := by decide +kernel
theorem dX11_pairs_74 : decode cX11_pairs 74 = .ok (.ireturn, 1) := by decide +kernel
set_option maxRecDepth 20000 in
theorem ggX11_meet_X2_hasPerson : GoodIn wsX11_meet wsX2_hasPerson := goodIn_r _ [11, 12, 80, 81, 82, 83, 84, 85, 86, 87, 88, 89, 90, 91, 92, 93, 94, 95, 96, 97] (by decide +kernel) (by decide +kernel)
set_option maxRecDepth 20000 in
theorem gX11_meet_X2_hasPerson : GoodIn wsX11_meet (wsV RX11 77 RX2 yX2_hasPerson wsX2_hasPerson) := goodIn_app (goodIn_of _ (by decide +kernel)) ggX11_meet_X2_hasPerson
set_option maxRecDepth 20000 in
theorem ggX11_meet_X8_compare : GoodIn wsX11_meet wsX8_compare := goodIn_r _ [17, 18, 19, 20, 21, 22, 23, 24, 25, 26, 27, 16, 28, 29, 30, 31, 32, 33, 34, 35, 36, 37, 38, 39, 40, 41, 42, 43, 44, 45, 46, 10, 47, 48, 49, 50, 51, 52, 53, 54, 55, 56, 57, 58, 59, 60, 61, 62, 80, 81, 82, 83, 84, 85, 86, 87, 88, 89, 90, 91, 92, 93, 94, 95, 96, 97, 72, 73, 74, 75, 76, 77, 78, 79] (by decide +kernel) (by decide +kernel)
set_option maxRecDepth 20000 in
theorem gX11_meet_X8_compare : GoodIn wsX11_meet (wsV RX11 200 RX8 yX8_compare wsX8_compare) := goodIn_app (goodIn_of _ (by decide +kernel)) ggX11_meet_X8_compare
theorem dX11_meet_0 : decode cX11_meet 0 = .ok (.aload_n 0, 1) := by decide +kernel
theorem dX11_meet_1 : decode cX11_meet 1 = .ok (.getfield 19, 3) := by decide +kernel
theorem dX11_meet_4 : decode cX11_meet 4 = .ok (.iload_n 1, 1) := by decide +kernel
theorem dX11_meet_5 : decode cX11_meet 5 = .ok (.invokevirtual 77, 3) := by decide +kernel
theorem dX11_meet_8 : decode cX11_meet 8 = .ok (.ifCond .eq 19, 3) := by decide +kernel
theorem dX11_meet_11 : decode cX11_meet 11 = .ok (.aload_n 0, 1) := by decide +kernel
theorem dX11_meet_12 : decode cX11_meet 12 = .ok (.getfield 19, 3) := by decide +kernel
theorem dX11_meet_15 : decode cX11_meet 15 = .ok (.iload_n 2, 1) := by decide +kernel
theorem dX11_meet_16 : decode cX11_meet 16 = .ok (.invokevirtual 77, 3) := by decide +kernel
theorem dX11_meet_19 : decode cX11_meet 19 = .ok (.ifCond .eq 8, 3) := by decide +kernel
theorem dX11_meet_22 : decode cX11_meet 22 = .ok (.iload_n 1, 1) := by decide +kernel
theorem dX11_meet_23 : decode cX11_meet 23 = .ok (.iload_n 2, 1) := by decide +kernel
theorem dX11_meet_24 : decode cX11_meet 24 = .ok (.if_icmp .ne 7, 3) := by decide +kernel
theorem dX11_meet_27 : decode cX11_meet 27 = .ok (.ldc2_w 196, 3) := by decide +kernel
theorem dX11_meet_30 : decode cX11_meet 30 = .ok (.lreturn, 1) := by decide +kernel
theorem dX11_meet_31 : decode cX11_meet 31 = .ok (.iload_n 3, 1) := by decide +kernel
theorem dX11_meet_32 : decode cX11_meet 32 = .ok (.iconst 1, 1) := by decide +kernel
theorem dX11_meet_33 : decode cX11_meet 33 = .ok (.if_icmp .lt 19, 3) := by decide +kernel
theorem dX11_meet_36 : decode cX11_meet 36 = .ok (.iload_n 3, 1) := by decide +kernel
theorem dX11_meet_37 : decode cX11_meet 37 = .ok (.iconst 3, 1) := by decide +kernel
theorem dX11_meet_38 : decode cX11_meet 38 = .ok (.if_icmp .gt 14, 3) := by decide +kernel
theorem dX11_meet_41 : decode cX11_meet 41 = .ok (.iload 4, 2) := by decide +kernel
theorem dX11_meet_43 : decode cX11_meet 43 = .ok (.ifCond .lt 9, 3) := by decide +kernel
theorem dX11_meet_46 : decode cX11_meet 46 = .ok (.iload 4, 2) := by decide +kernel
theorem dX11_meet_48 : decode cX11_meet 48 = .ok (.iconst 1, 1) := by decide +kernel
theorem dX11_meet_49 : decode cX11_meet 49 = .ok (.if_icmp .le 7, 3) := by decide +kernel
theorem dX11_meet_52 : decode cX11_meet 52 = .ok (.ldc2_w 198, 3) := by decide +kernel
theorem dX11_meet_55 : decode cX11_meet 55 = .ok (.lreturn, 1) := by decide +kernel
theorem dX11_meet_56 : decode cX11_meet 56 = .ok (.aload_n 0, 1) := by decide +kernel
theorem dX11_meet_57 : decode cX11_meet 57 = .ok (.getfield 43, 3) := by decide +kernel
theorem dX11_meet_60 : decode cX11_meet 60 = .ok (.aload_n 0, 1) := by decide +kernel
theorem dX11_meet_61 : decode cX11_meet 61 = .ok (.getfield 19, 3) := by decide +kernel
theorem dX11_meet_64 : decode cX11_meet 64 = .ok (.iload_n 1, 1) := by decide +kernel
theorem dX11_meet_65 : decode cX11_meet 65 = .ok (.iload_n 2, 1) := by decide +kernel
theorem dX11_meet_66 : decode cX11_meet 66 = .ok (.iload_n 3, 1) := by decide +kernel
theorem dX11_meet_67 : decode cX11_meet 67 = .ok (.invokevirtual 200, 3) := by decide +kernel
theorem dX11_meet_70 : decode cX11_meet 70 = .ok (.iload 4, 2) := by decide +kernel
theorem dX11_meet_72 : decode cX11_meet 72 = .ok (.ifCond .ne 13, 3) := by decide +kernel
theorem dX11_meet_75 : decode cX11_meet 75 = .ok (.aload_n 0, 1) := by decide +kernel
theorem dX11_meet_76 : decode cX11_meet 76 = .ok (.getfield 43, 3) := by decide +kernel
theorem dX11_meet_79 : decode cX11_meet 79 = .ok (.getfield 204, 3) := by decide +kernel
theorem dX11_meet_82 : decode cX11_meet 82 = .ok (.goto 10, 3) := by decide +kernel
theorem dX11_meet_85 : decode cX11_meet 85 = .ok (.aload_n 0, 1) := by decide +kernel
theorem dX11_meet_86 : decode cX11_meet 86 = .ok (.getfield 43, 3) := by decide +kernel
theorem dX11_meet_89 : decode cX11_meet 89 = .ok (.getfield 208, 3) := by decide +kernel
theorem dX11_meet_92 : decode cX11_meet 92 = .ok (.lreturn, 1) := by decide +kernel
set_option maxRecDepth 20000 in
theorem ggX11_see_X2_knows : GoodIn wsX11_see wsX2_knows := goodIn_r _ [7, 8, 9, 10, 6, 11, 12, 13, 14, 15, 16, 17, 36, 37, 38, 39, 40, 41, 42, 43, 44, 45, 46, 47, 48, 49, 50, 51, 52, 53] (by decide +kernel) (by decide +kernel)
set_option maxRecDepth 20000 in
theorem gX11_see_X2_knows : GoodIn wsX11_see (wsV RX11 142 RX2 yX2_knows wsX2_knows) := goodIn_app (goodIn_of _ (by decide +kernel)) ggX11_see_X2_knows
set_option maxRecDepth 20000 in
theorem ggX11_see_X2_note : GoodIn wsX11_see wsX2_note := goodIn_r _ [21, 22, 23, 24, 25, 26, 36, 37, 38, 39, 40, 41, 42, 43, 44, 45, 46, 47, 48, 49, 50, 51, 52, 53] (by decide +kernel) (by decide +kernel)
set_option maxRecDepth 20000 in
theorem gX11_see_X2_note : GoodIn wsX11_see (wsV RX11 214 RX2 yX2_note wsX2_note) := goodIn_app (goodIn_of _ (by decide +kernel)) ggX11_see_X2_note
theorem dX11_see_0 : decode cX11_see 0 = .ok (.aload_n 0, 1) := by decide +kernel
theorem dX11_see_1 : decode cX11_see 1 = .ok (.getfield 19, 3) := by decide +kernel
theorem dX11_see_4 : decode cX11_see 4 = .ok (.iload_n 1, 1) := by decide +kernel
theorem dX11_see_5 : decode cX11_see 5 = .ok (.iload_n 2, 1) := by decide +kernel
theorem dX11_see_6 : decode cX11_see 6 = .ok (.iload_n 3, 1) := by decide +kernel
theorem dX11_see_7 : decode cX11_see 7 = .ok (.invokevirtual 142, 3) := by decide +kernel
theorem dX11_see_10 : decode cX11_see 10 = .ok (.ifCond .ne 6, 3) := by decide +kernel
theorem dX11_see_13 : decode cX11_see 13 = .ok (.bipush (-101), 2) := by decide +kernel
theorem dX11_see_15 : decode cX11_see 15 = .ok (.ireturn, 1) := by decide +kernel
theorem dX11_see_16 : decode cX11_see 16 = .ok (.iload 4, 2) := by decide +kernel
theorem dX11_see_18 : decode cX11_see 18 = .ok (.ifCond .lt 10, 3) := by decide +kernel
theorem dX11_see_21 : decode cX11_see 21 = .ok (.iload 4, 2) := by decide +kernel
theorem dX11_see_23 : decode cX11_see 23 = .ok (.bipush 120, 2) := by decide +kernel
theorem dX11_see_25 : decode cX11_see 25 = .ok (.if_icmp .le 6, 3) := by decide +kernel
theorem dX11_see_28 : decode cX11_see 28 = .ok (.bipush (-102), 2) := by decide +kernel
theorem dX11_see_30 : decode cX11_see 30 = .ok (.ireturn, 1) := by decide +kernel
theorem dX11_see_31 : decode cX11_see 31 = .ok (.aload_n 0, 1) := by decide +kernel
theorem dX11_see_32 : decode cX11_see 32 = .ok (.getfield 19, 3) := by decide +kernel
theorem dX11_see_35 : decode cX11_see 35 = .ok (.getfield 211, 3) := by decide +kernel
theorem dX11_see_38 : decode cX11_see 38 = .ok (.bipush 6, 2) := by decide +kernel
theorem dX11_see_40 : decode cX11_see 40 = .ok (.if_icmp .lt 6, 3) := by decide +kernel
theorem dX11_see_43 : decode cX11_see 43 = .ok (.bipush (-104), 2) := by decide +kernel
theorem dX11_see_45 : decode cX11_see 45 = .ok (.ireturn, 1) := by decide +kernel
theorem dX11_see_46 : decode cX11_see 46 = .ok (.aload_n 0, 1) := by decide +kernel
theorem dX11_see_47 : decode cX11_see 47 = .ok (.getfield 19, 3) := by decide +kernel
theorem dX11_see_50 : decode cX11_see 50 = .ok (.iload_n 1, 1) := by decide +kernel
theorem dX11_see_51 : decode cX11_see 51 = .ok (.iload_n 2, 1) := by decide +kernel
theorem dX11_see_52 : decode cX11_see 52 = .ok (.iload_n 3, 1) := by decide +kernel
theorem dX11_see_53 : decode cX11_see 53 = .ok (.iload 4, 2) := by decide +kernel
theorem dX11_see_55 : decode cX11_see 55 = .ok (.invokevirtual 214, 3) := by decide +kernel
theorem dX11_see_58 : decode cX11_see 58 = .ok (.aload_n 0, 1) := by decide +kernel
theorem dX11_see_59 : decode cX11_see 59 = .ok (.getfield 19, 3) := by decide +kernel
theorem dX11_see_62 : decode cX11_see 62 = .ok (.getfield 211, 3) := by decide +kernel
theorem dX11_see_65 : decode cX11_see 65 = .ok (.ireturn, 1) := by decide +kernel
theorem dX11_forget_0 : decode cX11_forget 0 = .ok (.aload_n 0, 1) := by decide +kernel
theorem dX11_forget_1 : decode cX11_forget 1 = .ok (.getfield 19, 3) := by decide +kernel
theorem dX11_forget_4 : decode cX11_forget 4 = .ok (.getfield 211, 3) := by decide +kernel
theorem dX11_forget_7 : decode cX11_forget 7 = .ok (.istore_n 1, 1) := by decide +kernel
theorem dX11_forget_8 : decode cX11_forget 8 = .ok (.aload_n 0, 1) := by decide +kernel
theorem dX11_forget_9 : decode cX11_forget 9 = .ok (.getfield 19, 3) := by decide +kernel
theorem dX11_forget_12 : decode cX11_forget 12 = .ok (.iconst 0, 1) := by decide +kernel
theorem dX11_forget_13 : decode cX11_forget 13 = .ok (.putfield 211, 3) := by decide +kernel
theorem dX11_forget_16 : decode cX11_forget 16 = .ok (.iload_n 1, 1) := by decide +kernel
theorem dX11_forget_17 : decode cX11_forget 17 = .ok (.ireturn, 1) := by decide +kernel
set_option maxRecDepth 20000 in
theorem ggX11_days_X2_isThere : GoodIn wsX11_days wsX2_isThere := goodIn_r _ [9, 10, 143, 144, 145, 146, 147, 148, 149, 150, 151, 152, 153, 154, 155, 156, 157, 158, 159, 160] (by decide +kernel) (by decide +kernel)
set_option maxRecDepth 20000 in
theorem gX11_days_X2_isThere : GoodIn wsX11_days (wsV RX11 170 RX2 yX2_isThere wsX2_isThere) := goodIn_app (goodIn_of _ (by decide +kernel)) ggX11_days_X2_isThere
set_option maxRecDepth 20000 in
theorem ggX11_days_X8_dream : GoodIn wsX11_days wsX8_dream := goodIn_r _ [15, 16, 17, 18, 19, 20, 21, 8, 22, 10, 23, 24, 25, 26, 27, 28, 29, 30, 31, 32, 33, 34, 35, 36, 37, 38, 39, 40, 41, 42, 43, 44, 45, 14, 46, 47, 48, 49, 50, 51, 52, 53, 54, 55, 56, 57, 58, 59, 60, 61, 62, 63, 64, 65, 66, 67, 68, 69, 70, 71, 72, 73, 74, 75, 76, 77, 78, 79, 80, 81, 82, 83, 84, 85, 86, 87, 88, 89, 90, 91, 92, 93, 94, 95, 96, 97, 98, 99, 100, 101, 102, 103, 104, 105, 106, 107, 108, 109, 110, 111, 112, 113, 114, 115, 116, 117, 135, 136, 137, 138, 139, 140, 141, 142, 143, 144, 145, 146, 147, 148, 149, 150, 151, 152, 153, 154, 155, 156, 157, 158, 159, 160] (by decide +kernel) (by decide +kernel)
set_option maxRecDepth 20000 in
theorem gX11_days_X8_dream : GoodIn wsX11_days (wsV RX11 218 RX8 yX8_dream wsX8_dream) := goodIn_app (goodIn_of _ (by decide +kernel)) ggX11_days_X8_dream
set_option maxRecDepth 20000 in
theorem ggX11_days_X8_dreamtInRoomZero : GoodIn wsX11_days wsX8_dreamtInRoomZero := goodIn_r _ [121, 16, 122, 123, 124, 8, 125, 24, 37, 135, 136, 137, 138, 139, 140, 141, 142, 143, 144, 145, 146, 147, 148, 149, 150, 151, 152, 153, 154, 155, 156, 157, 158, 159, 160] (by decide +kernel) (by decide +kernel)
set_option maxRecDepth 20000 in
theorem gX11_days_X8_dreamtInRoomZero : GoodIn wsX11_days (wsV RX11 224 RX8 yX8_dreamtInRoomZero wsX8_dreamtInRoomZero) := goodIn_app (goodIn_of _ (by decide +kernel)) ggX11_days_X8_dreamtInRoomZero
theorem dX11_days_0 : decode cX11_days 0 = .ok (.iload_n 1, 1) := by decide +kernel
theorem dX11_days_1 : decode cX11_days 1 = .ok (.iconst 1, 1) := by decide +kernel
theorem dX11_days_2 : decode cX11_days 2 = .ok (.if_icmp .lt 22, 3) := by decide +kernel
theorem dX11_days_5 : decode cX11_days 5 = .ok (.iload_n 1, 1) := by decide +kernel
theorem dX11_days_6 : decode cX11_days 6 = .ok (.bipush 60, 2) := by decide +kernel
theorem dX11_days_8 : decode cX11_days 8 = .ok (.if_icmp .gt 16, 3) := by decide +kernel
theorem dX11_days_11 : decode cX11_days 11 = .ok (.iload_n 2, 1) := by decide +kernel
theorem dX11_days_12 : decode cX11_days 12 = .ok (.ifCond .lt 12, 3) := by decide +kernel
theorem dX11_days_15 : decode cX11_days 15 = .ok (.iload_n 3, 1) := by decide +kernel
theorem dX11_days_16 : decode cX11_days 16 = .ok (.ifCond .lt 8, 3) := by decide +kernel
theorem dX11_days_19 : decode cX11_days 19 = .ok (.iload_n 3, 1) := by decide +kernel
theorem dX11_days_20 : decode cX11_days 20 = .ok (.iconst 2, 1) := by decide +kernel
theorem dX11_days_21 : decode cX11_days 21 = .ok (.if_icmp .le 6, 3) := by decide +kernel
theorem dX11_days_24 : decode cX11_days 24 = .ok (.bipush (-102), 2) := by decide +kernel
theorem dX11_days_26 : decode cX11_days 26 = .ok (.ireturn, 1) := by decide +kernel
theorem dX11_days_27 : decode cX11_days 27 = .ok (.aload_n 0, 1) := by decide +kernel
theorem dX11_days_28 : decode cX11_days 28 = .ok (.getfield 19, 3) := by decide +kernel
theorem dX11_days_31 : decode cX11_days 31 = .ok (.invokevirtual 170, 3) := by decide +kernel
theorem dX11_days_34 : decode cX11_days 34 = .ok (.ifCond .ne 6, 3) := by decide +kernel
theorem dX11_days_37 : decode cX11_days 37 = .ok (.bipush (-103), 2) := by decide +kernel
theorem dX11_days_39 : decode cX11_days 39 = .ok (.ireturn, 1) := by decide +kernel
theorem dX11_days_40 : decode cX11_days 40 = .ok (.aload_n 0, 1) := by decide +kernel
theorem dX11_days_41 : decode cX11_days 41 = .ok (.getfield 43, 3) := by decide +kernel
theorem dX11_days_44 : decode cX11_days 44 = .ok (.aload_n 0, 1) := by decide +kernel
theorem dX11_days_45 : decode cX11_days 45 = .ok (.getfield 19, 3) := by decide +kernel
theorem dX11_days_48 : decode cX11_days 48 = .ok (.iload_n 1, 1) := by decide +kernel
theorem dX11_days_49 : decode cX11_days 49 = .ok (.iload_n 2, 1) := by decide +kernel
theorem dX11_days_50 : decode cX11_days 50 = .ok (.invokevirtual 218, 3) := by decide +kernel
theorem dX11_days_53 : decode cX11_days 53 = .ok (.iload_n 3, 1) := by decide +kernel
theorem dX11_days_54 : decode cX11_days 54 = .ok (.lookupswitch 42 #[(0, 26), (1, 34)], 26) := by decide +kernel
theorem dX11_days_80 : decode cX11_days 80 = .ok (.aload_n 0, 1) := by decide +kernel
theorem dX11_days_81 : decode cX11_days 81 = .ok (.getfield 43, 3) := by decide +kernel
theorem dX11_days_84 : decode cX11_days 84 = .ok (.getfield 221, 3) := by decide +kernel
theorem dX11_days_87 : decode cX11_days 87 = .ok (.ireturn, 1) := by decide +kernel
theorem dX11_days_88 : decode cX11_days 88 = .ok (.aload_n 0, 1) := by decide +kernel
theorem dX11_days_89 : decode cX11_days 89 = .ok (.getfield 43, 3) := by decide +kernel
theorem dX11_days_92 : decode cX11_days 92 = .ok (.invokevirtual 224, 3) := by decide +kernel
theorem dX11_days_95 : decode cX11_days 95 = .ok (.ireturn, 1) := by decide +kernel
theorem dX11_days_96 : decode cX11_days 96 = .ok (.aload_n 0, 1) := by decide +kernel
theorem dX11_days_97 : decode cX11_days 97 = .ok (.getfield 43, 3) := by decide +kernel
theorem dX11_days_100 : decode cX11_days 100 = .ok (.getfield 227, 3) := by decide +kernel
theorem dX11_days_103 : decode cX11_days 103 = .ok (.ireturn, 1) := by decide +kernel
set_option maxRecDepth 20000 in
theorem ggX11_image_X2_isThere : GoodIn wsX11_image wsX2_isThere := goodIn_r _ [9, 10, 48, 49, 50, 51, 52, 53, 54, 55, 56, 57, 58, 59, 60, 61, 62, 63, 64, 65] (by decide +kernel) (by decide +kernel)
set_option maxRecDepth 20000 in
theorem gX11_image_X2_isThere : GoodIn wsX11_image (wsV RX11 170 RX2 yX2_isThere wsX2_isThere) := goodIn_app (goodIn_of _ (by decide +kernel)) ggX11_image_X2_isThere
set_option maxRecDepth 20000 in
theorem ggX11_image_X2_copyFrom : GoodIn wsX11_image wsX2_copyFrom := goodIn_r _ [14, 10, 15, 16, 17, 18, 19, 20, 21, 22, 23, 24, 25, 26, 27, 28, 29, 30, 31, 32, 33, 34, 48, 49, 50, 51, 52, 53, 54, 55, 56, 57, 58, 59, 60, 61, 62, 63, 64, 65] (by decide +kernel) (by decide +kernel)
set_option maxRecDepth 20000 in
theorem gX11_image_X2_copyFrom : GoodIn wsX11_image (wsV RX11 230 RX2 yX2_copyFrom wsX2_copyFrom) := goodIn_app (goodIn_of _ (by decide +kernel)) ggX11_image_X2_copyFrom
set_option maxRecDepth 20000 in
theorem ggX11_image_X2_sumOfPeople : GoodIn wsX11_image wsX2_sumOfPeople := goodIn_r _ [38, 16, 48, 49, 50, 51, 52, 53, 54, 55, 56, 57, 58, 59, 60, 61, 62, 63, 64, 65] (by decide +kernel) (by decide +kernel)
set_option maxRecDepth 20000 in
theorem gX11_image_X2_sumOfPeople : GoodIn wsX11_image (wsV RX11 233 RX2 yX2_sumOfPeople wsX2_sumOfPeople) := goodIn_app (goodIn_of _ (by decide +kernel)) ggX11_image_X2_sumOfPeople
theorem dX11_image_0 : decode cX11_image 0 = .ok (.aload_n 0, 1) := by decide +kernel
theorem dX11_image_1 : decode cX11_image 1 = .ok (.getfield 19, 3) := by decide +kernel
theorem dX11_image_4 : decode cX11_image 4 = .ok (.invokevirtual 170, 3) := by decide +kernel
theorem dX11_image_7 : decode cX11_image 7 = .ok (.ifCond .ne 6, 3) := by decide +kernel
theorem dX11_image_10 : decode cX11_image 10 = .ok (.bipush (-103), 2) := by decide +kernel
theorem dX11_image_12 : decode cX11_image 12 = .ok (.ireturn, 1) := by decide +kernel
theorem dX11_image_13 : decode cX11_image 13 = .ok (.aload_n 0, 1) := by decide +kernel
theorem dX11_image_14 : decode cX11_image 14 = .ok (.getfield 23, 3) := by decide +kernel
theorem dX11_image_17 : decode cX11_image 17 = .ok (.aload_n 0, 1) := by decide +kernel
theorem dX11_image_18 : decode cX11_image 18 = .ok (.getfield 19, 3) := by decide +kernel
theorem dX11_image_21 : decode cX11_image 21 = .ok (.invokevirtual 230, 3) := by decide +kernel
theorem dX11_image_24 : decode cX11_image 24 = .ok (.aload_n 0, 1) := by decide +kernel
theorem dX11_image_25 : decode cX11_image 25 = .ok (.iconst 1, 1) := by decide +kernel
theorem dX11_image_26 : decode cX11_image 26 = .ok (.putfield 67, 3) := by decide +kernel
theorem dX11_image_29 : decode cX11_image 29 = .ok (.aload_n 0, 1) := by decide +kernel
theorem dX11_image_30 : decode cX11_image 30 = .ok (.getfield 19, 3) := by decide +kernel
theorem dX11_image_33 : decode cX11_image 33 = .ok (.aload_n 0, 1) := by decide +kernel
theorem dX11_image_34 : decode cX11_image 34 = .ok (.getfield 19, 3) := by decide +kernel
theorem dX11_image_37 : decode cX11_image 37 = .ok (.getfield 98, 3) := by decide +kernel
theorem dX11_image_40 : decode cX11_image 40 = .ok (.invokevirtual 233, 3) := by decide +kernel
theorem dX11_image_43 : decode cX11_image 43 = .ok (.ireturn, 1) := by decide +kernel
set_option maxRecDepth 20000 in
theorem ggX11_restore_X2_copyFrom : GoodIn wsX11_restore wsX2_copyFrom := goodIn_r _ [9, 10, 11, 12, 13, 14, 15, 16, 17, 18, 19, 20, 21, 22, 23, 24, 25, 26, 27, 28, 29, 30, 44, 45, 46, 47, 48, 49, 50, 51, 52, 53, 54, 55, 56, 57, 58, 59, 60, 61] (by decide +kernel) (by decide +kernel)
set_option maxRecDepth 20000 in
theorem gX11_restore_X2_copyFrom : GoodIn wsX11_restore (wsV RX11 230 RX2 yX2_copyFrom wsX2_copyFrom) := goodIn_app (goodIn_of _ (by decide +kernel)) ggX11_restore_X2_copyFrom
set_option maxRecDepth 20000 in
theorem ggX11_restore_X2_sumOfPeople : GoodIn wsX11_restore wsX2_sumOfPeople := goodIn_r _ [34, 12, 44, 45, 46, 47, 48, 49, 50, 51, 52, 53, 54, 55, 56, 57, 58, 59, 60, 61] (by decide +kernel) (by decide +kernel)
set_option maxRecDepth 20000 in
theorem gX11_restore_X2_sumOfPeople : GoodIn wsX11_restore (wsV RX11 233 RX2 yX2_sumOfPeople wsX2_sumOfPeople) := goodIn_app (goodIn_of _ (by decide +kernel)) ggX11_restore_X2_sumOfPeople
theorem dX11_restore_0 : decode cX11_restore 0 = .ok (.aload_n 0, 1) := by decide +kernel
theorem dX11_restore_1 : decode cX11_restore 1 = .ok (.getfield 67, 3) := by decide +kernel
theorem dX11_restore_4 : decode cX11_restore 4 = .ok (.ifCond .ne 6, 3) := by decide +kernel
theorem dX11_restore_7 : decode cX11_restore 7 = .ok (.bipush (-103), 2) := by decide +kernel
theorem dX11_restore_9 : decode cX11_restore 9 = .ok (.ireturn, 1) := by decide +kernel
theorem dX11_restore_10 : decode cX11_restore 10 = .ok (.aload_n 0, 1) := by decide +kernel
theorem dX11_restore_11 : decode cX11_restore 11 = .ok (.getfield 19, 3) := by decide +kernel
theorem dX11_restore_14 : decode cX11_restore 14 = .ok (.aload_n 0, 1) := by decide +kernel
theorem dX11_restore_15 : decode cX11_restore 15 = .ok (.getfield 23, 3) := by decide +kernel
theorem dX11_restore_18 : decode cX11_restore 18 = .ok (.invokevirtual 230, 3) := by decide +kernel
theorem dX11_restore_21 : decode cX11_restore 21 = .ok (.aload_n 0, 1) := by decide +kernel
theorem dX11_restore_22 : decode cX11_restore 22 = .ok (.getfield 19, 3) := by decide +kernel
theorem dX11_restore_25 : decode cX11_restore 25 = .ok (.aload_n 0, 1) := by decide +kernel
theorem dX11_restore_26 : decode cX11_restore 26 = .ok (.getfield 19, 3) := by decide +kernel
theorem dX11_restore_29 : decode cX11_restore 29 = .ok (.getfield 98, 3) := by decide +kernel
theorem dX11_restore_32 : decode cX11_restore 32 = .ok (.invokevirtual 233, 3) := by decide +kernel
theorem dX11_restore_35 : decode cX11_restore 35 = .ok (.ireturn, 1) := by decide +kernel
set_option maxRecDepth 20000 in
theorem ggX11_count_X2_sumOfPeople : GoodIn wsX11_count wsX2_sumOfPeople := goodIn_r _ [18, 19, 34, 35, 36, 37, 38, 39, 40, 41, 42, 43, 44, 45, 46, 47, 48, 49, 50, 51] (by decide +kernel) (by decide +kernel)
set_option maxRecDepth 20000 in
theorem gX11_count_X2_sumOfPeople : GoodIn wsX11_count (wsV RX11 233 RX2 yX2_sumOfPeople wsX2_sumOfPeople) := goodIn_app (goodIn_of _ (by decide +kernel)) ggX11_count_X2_sumOfPeople
set_option maxRecDepth 20000 in
theorem ggX11_count_X2_peopleInRoomZero : GoodIn wsX11_count wsX2_peopleInRoomZero := goodIn_r _ [23, 19, 24, 34, 35, 36, 37, 38, 39, 40, 41, 42, 43, 44, 45, 46, 47, 48, 49, 50, 51] (by decide +kernel) (by decide +kernel)
set_option maxRecDepth 20000 in
theorem gX11_count_X2_peopleInRoomZero : GoodIn wsX11_count (wsV RX11 246 RX2 yX2_peopleInRoomZero wsX2_peopleInRoomZero) := goodIn_app (goodIn_of _ (by decide +kernel)) ggX11_count_X2_peopleInRoomZero
theorem dX11_count_0 : decode cX11_count 0 = .ok (.iload_n 1, 1) := by decide +kernel
theorem dX11_count_1 : decode cX11_count 1 = .ok (.tableswitch 174 0 11 #[63, 71, 79, 87, 102, 117, 132, 140, 148, 156, 164, 169], 63) := by decide +kernel
theorem dX11_count_64 : decode cX11_count 64 = .ok (.aload_n 0, 1) := by decide +kernel
theorem dX11_count_65 : decode cX11_count 65 = .ok (.getfield 19, 3) := by decide +kernel
theorem dX11_count_68 : decode cX11_count 68 = .ok (.getfield 237, 3) := by decide +kernel
theorem dX11_count_71 : decode cX11_count 71 = .ok (.ireturn, 1) := by decide +kernel
theorem dX11_count_72 : decode cX11_count 72 = .ok (.aload_n 0, 1) := by decide +kernel
theorem dX11_count_73 : decode cX11_count 73 = .ok (.getfield 19, 3) := by decide +kernel
theorem dX11_count_76 : decode cX11_count 76 = .ok (.getfield 240, 3) := by decide +kernel
theorem dX11_count_79 : decode cX11_count 79 = .ok (.ireturn, 1) := by decide +kernel
theorem dX11_count_80 : decode cX11_count 80 = .ok (.aload_n 0, 1) := by decide +kernel
theorem dX11_count_81 : decode cX11_count 81 = .ok (.getfield 19, 3) := by decide +kernel
theorem dX11_count_84 : decode cX11_count 84 = .ok (.getfield 74, 3) := by decide +kernel
theorem dX11_count_87 : decode cX11_count 87 = .ok (.ireturn, 1) := by decide +kernel
theorem dX11_count_88 : decode cX11_count 88 = .ok (.aload_n 0, 1) := by decide +kernel
theorem dX11_count_89 : decode cX11_count 89 = .ok (.getfield 19, 3) := by decide +kernel
theorem dX11_count_92 : decode cX11_count 92 = .ok (.aload_n 0, 1) := by decide +kernel
theorem dX11_count_93 : decode cX11_count 93 = .ok (.getfield 19, 3) := by decide +kernel
theorem dX11_count_96 : decode cX11_count 96 = .ok (.getfield 89, 3) := by decide +kernel
theorem dX11_count_99 : decode cX11_count 99 = .ok (.invokevirtual 233, 3) := by decide +kernel
theorem dX11_count_102 : decode cX11_count 102 = .ok (.ireturn, 1) := by decide +kernel
theorem dX11_count_103 : decode cX11_count 103 = .ok (.aload_n 0, 1) := by decide +kernel
theorem dX11_count_104 : decode cX11_count 104 = .ok (.getfield 19, 3) := by decide +kernel
theorem dX11_count_107 : decode cX11_count 107 = .ok (.aload_n 0, 1) := by decide +kernel
theorem dX11_count_108 : decode cX11_count 108 = .ok (.getfield 19, 3) := by decide +kernel
theorem dX11_count_111 : decode cX11_count 111 = .ok (.getfield 92, 3) := by decide +kernel
theorem dX11_count_114 : decode cX11_count 114 = .ok (.invokevirtual 233, 3) := by decide +kernel
theorem dX11_count_117 : decode cX11_count 117 = .ok (.ireturn, 1) := by decide +kernel
theorem dX11_count_118 : decode cX11_count 118 = .ok (.aload_n 0, 1) := by decide +kernel
theorem dX11_count_119 : decode cX11_count 119 = .ok (.getfield 19, 3) := by decide +kernel
theorem dX11_count_122 : decode cX11_count 122 = .ok (.aload_n 0, 1) := by decide +kernel
theorem dX11_count_123 : decode cX11_count 123 = .ok (.getfield 19, 3) := by decide +kernel
theorem dX11_count_126 : decode cX11_count 126 = .ok (.getfield 98, 3) := by decide +kernel
theorem dX11_count_129 : decode cX11_count 129 = .ok (.invokevirtual 233, 3) := by decide +kernel
theorem dX11_count_132 : decode cX11_count 132 = .ok (.ireturn, 1) := by decide +kernel
theorem dX11_count_133 : decode cX11_count 133 = .ok (.aload_n 0, 1) := by decide +kernel
theorem dX11_count_134 : decode cX11_count 134 = .ok (.getfield 19, 3) := by decide +kernel
theorem dX11_count_137 : decode cX11_count 137 = .ok (.getfield 243, 3) := by decide +kernel
theorem dX11_count_140 : decode cX11_count 140 = .ok (.ireturn, 1) := by decide +kernel
theorem dX11_count_141 : decode cX11_count 141 = .ok (.aload_n 0, 1) := by decide +kernel
theorem dX11_count_142 : decode cX11_count 142 = .ok (.getfield 19, 3) := by decide +kernel
theorem dX11_count_145 : decode cX11_count 145 = .ok (.invokevirtual 246, 3) := by decide +kernel
theorem dX11_count_148 : decode cX11_count 148 = .ok (.ireturn, 1) := by decide +kernel
theorem dX11_count_149 : decode cX11_count 149 = .ok (.aload_n 0, 1) := by decide +kernel
theorem dX11_count_150 : decode cX11_count 150 = .ok (.getfield 19, 3) := by decide +kernel
theorem dX11_count_153 : decode cX11_count 153 = .ok (.getfield 211, 3) := by decide +kernel
theorem dX11_count_156 : decode cX11_count 156 = .ok (.ireturn, 1) := by decide +kernel
theorem dX11_count_157 : decode cX11_count 157 = .ok (.aload_n 0, 1) := by decide +kernel
theorem dX11_count_158 : decode cX11_count 158 = .ok (.getfield 10, 3) := by decide +kernel
theorem dX11_count_161 : decode cX11_count 161 = .ok (.getfield 47, 3) := by decide +kernel
theorem dX11_count_164 : decode cX11_count 164 = .ok (.ireturn, 1) := by decide +kernel
theorem dX11_count_165 : decode cX11_count 165 = .ok (.aload_n 0, 1) := by decide +kernel
theorem dX11_count_166 : decode cX11_count 166 = .ok (.getfield 71, 3) := by decide +kernel
theorem dX11_count_169 : decode cX11_count 169 = .ok (.ireturn, 1) := by decide +kernel
theorem dX11_count_170 : decode cX11_count 170 = .ok (.aload_n 0, 1) := by decide +kernel
theorem dX11_count_171 : decode cX11_count 171 = .ok (.getfield 173, 3) := by decide +kernel
theorem dX11_count_174 : decode cX11_count 174 = .ok (.ireturn, 1) := by decide +kernel
theorem dX11_count_175 : decode cX11_count 175 = .ok (.bipush (-102), 2) := by decide +kernel
theorem dX11_count_177 : decode cX11_count 177 = .ok (.ireturn, 1) := by decide +kernel
set_option maxRecDepth 20000 in
theorem ggX11_digest_X11_tellPerson : GoodIn wsX11_digest wsX11_tellPerson := goodIn_r _ [14, 2, 15, 16, 17, 18, 19, 20, 21, 22, 23, 24, 25, 26, 27, 28, 29, 30, 31, 32, 33, 34, 35, 36, 37, 38, 39, 40, 41, 42, 43, 44, 45, 46, 47, 48, 49, 50, 51, 52, 53, 54, 55, 56, 57, 58, 59, 60, 61, 62, 63, 64, 65, 66, 67, 68, 69, 70, 71, 72, 73, 74, 75, 76, 77, 78, 79, 80, 81, 82, 83, 84, 85, 86, 87, 88, 267, 268, 269, 270, 271, 272, 273, 274, 275, 276, 277, 278, 279, 280, 281, 282, 283, 284, 285, 286, 287, 288, 289, 290, 291, 292, 293] (by decide +kernel) (by decide +kernel)
set_option maxRecDepth 20000 in
theorem gX11_digest_X11_tellPerson : GoodIn wsX11_digest (wsV RX11 81 RX11 yX11_tellPerson wsX11_tellPerson) := goodIn_app (goodIn_of _ (by decide +kernel)) ggX11_digest_X11_tellPerson
set_option maxRecDepth 20000 in
theorem ggX11_digest_X11_mix : GoodIn wsX11_digest wsX11_mix := goodIn_r _ [91, 92] (by decide +kernel) (by decide +kernel)
set_option maxRecDepth 20000 in
theorem gX11_digest_X11_mix : GoodIn wsX11_digest (va_wsS RX11 251 yX11_mix wsX11_mix) := goodIn_app (goodIn_of _ (by decide +kernel)) ggX11_digest_X11_mix
set_option maxRecDepth 20000 in
theorem ggX11_digest_X11_mixWays : GoodIn wsX11_digest wsX11_mixWays := goodIn_r _ [96, 2, 18, 97, 98, 99, 100, 101, 102, 103, 104, 105, 106, 107, 108, 109, 110, 111, 112, 113, 35, 114, 37, 38, 39, 40, 41, 42, 43, 44, 45, 46, 47, 48, 49, 50, 51, 52, 53, 54, 55, 56, 57, 58, 59, 60, 61, 62, 63, 64, 65, 66, 67, 68, 69, 70, 71, 72, 73, 74, 75, 76, 115, 116, 117, 118, 119, 120, 121, 122, 123, 124, 87, 125, 126, 127, 128, 129, 89, 90, 13, 91, 92, 130, 131, 132, 133, 134, 135, 136, 137, 138, 139, 140, 141, 142, 143, 144, 145, 146, 147, 267, 268, 269, 270, 271, 272, 273, 274, 275, 276, 277, 278, 279, 280, 281, 282, 283, 284, 285, 286, 287, 288, 289, 290, 291, 292, 293, 304, 305, 306, 307, 308, 309] (by decide +kernel) (by decide +kernel)
set_option maxRecDepth 20000 in
theorem gX11_digest_X11_mixWays : GoodIn wsX11_digest (wsV RX11 255 RX11 yX11_mixWays wsX11_mixWays) := goodIn_app (goodIn_of _ (by decide +kernel)) ggX11_digest_X11_mixWays
set_option maxRecDepth 20000 in
theorem ggX11_digest_X11_mixPassage : GoodIn wsX11_digest wsX11_mixPassage := goodIn_r _ [151, 152, 2, 153, 154, 155, 156, 13, 157, 158, 159, 160, 89, 90, 91, 92, 161, 162, 163, 164, 165, 166, 167, 168, 169, 170, 171, 172, 112, 113, 35, 114, 37, 38, 39, 40, 41, 42, 43, 44, 45, 46, 47, 48, 49, 50, 51, 52, 53, 54, 55, 56, 57, 58, 59, 60, 61, 62, 63, 64, 65, 66, 67, 68, 69, 70, 71, 72, 73, 74, 75, 76, 173, 174, 175, 176, 177, 33, 34, 36, 178, 179, 180, 181, 182, 86, 87, 88, 183, 184, 185, 186, 187, 188, 189, 190, 191, 192, 193, 194, 195, 196, 197, 198, 199, 200, 201, 202, 203, 204, 267, 268, 269, 270, 271, 272, 273, 274, 275, 310, 311, 312, 313, 314, 315, 276, 277, 278, 279, 280, 281, 282, 283, 284, 285, 286, 287, 288, 289, 290, 291, 292, 293] (by decide +kernel) (by decide +kernel)
set_option maxRecDepth 20000 in
theorem gX11_digest_X11_mixPassage : GoodIn wsX11_digest (wsV RX11 259 RX11 yX11_mixPassage wsX11_mixPassage) := goodIn_app (goodIn_of _ (by decide +kernel)) ggX11_digest_X11_mixPassage
set_option maxRecDepth 20000 in
theorem ggX11_digest_X8_compare : GoodIn wsX11_digest wsX8_compare := goodIn_r _ [209, 210, 211, 212, 213, 214, 215, 216, 217, 218, 219, 208, 220, 221, 222, 193, 194, 195, 223, 224, 117, 225, 226, 227, 228, 229, 230, 231, 232, 233, 234, 35, 235, 236, 237, 139, 140, 141, 142, 143, 238, 239, 145, 146, 147, 240, 241, 242, 276, 277, 278, 279, 280, 281, 282, 283, 284, 285, 286, 287, 288, 289, 290, 291, 292, 293, 294, 295, 296, 297, 298, 299, 300, 301] (by decide +kernel) (by decide +kernel)
set_option maxRecDepth 20000 in
theorem gX11_digest_X8_compare : GoodIn wsX11_digest (wsV RX11 200 RX8 yX8_compare wsX8_compare) := goodIn_app (goodIn_of _ (by decide +kernel)) ggX11_digest_X8_compare
set_option maxRecDepth 20000 in
theorem ggX11_digest_X5_codeAt : GoodIn wsX11_digest wsX5_codeAt := goodIn_r _ [247, 248, 249, 302, 303] (by decide +kernel) (by decide +kernel)
set_option maxRecDepth 20000 in
theorem gX11_digest_X5_codeAt : GoodIn wsX11_digest (wsV RX11 262 RX5 yX5_codeAt wsX5_codeAt) := goodIn_app (goodIn_of _ (by decide +kernel)) ggX11_digest_X5_codeAt
set_option maxRecDepth 20000 in
theorem ggX11_digest_X11_count : GoodIn wsX11_digest wsX11_count := goodIn_r _ [253, 2, 97, 4, 3, 16, 17, 19, 254, 255, 8, 9, 256, 257, 258, 259, 260, 35, 261, 204, 262, 263, 264, 265, 266, 267, 268, 269, 270, 271, 272, 273, 274, 275, 276, 277, 278, 279, 280, 281, 282, 283, 284, 285, 286, 287, 288, 289, 290, 291, 292, 293, 302, 303] (by decide +kernel) (by decide +kernel)
set_option maxRecDepth 20000 in
theorem gX11_digest_X11_count : GoodIn wsX11_digest (wsV RX11 265 RX11 yX11_count wsX11_count) := goodIn_app (goodIn_of _ (by decide +kernel)) ggX11_digest_X11_count
theorem dX11_digest_0 : decode cX11_digest 0 = .ok (.ldc2_w 249, 3) := by decide +kernel
theorem dX11_digest_3 : decode cX11_digest 3 = .ok (.lstore_n 1, 1) := by decide +kernel
theorem dX11_digest_4 : decode cX11_digest 4 = .ok (.iconst 0, 1) := by decide +kernel
theorem dX11_digest_5 : decode cX11_digest 5 = .ok (.istore_n 3, 1) := by decide +kernel
theorem dX11_digest_6 : decode cX11_digest 6 = .ok (.iload_n 3, 1) := by decide +kernel
theorem dX11_digest_7 : decode cX11_digest 7 = .ok (.aload_n 0, 1) := by decide +kernel
theorem dX11_digest_8 : decode cX11_digest 8 = .ok (.getfield 19, 3) := by decide +kernel
theorem dX11_digest_11 : decode cX11_digest 11 = .ok (.getfield 74, 3) := by decide +kernel
theorem dX11_digest_14 : decode cX11_digest 14 = .ok (.if_icmp .ge 45, 3) := by decide +kernel
theorem dX11_digest_17 : decode cX11_digest 17 = .ok (.iconst 0, 1) := by decide +kernel
theorem dX11_digest_18 : decode cX11_digest 18 = .ok (.istore 4, 2) := by decide +kernel
theorem dX11_digest_20 : decode cX11_digest 20 = .ok (.iload 4, 2) := by decide +kernel
theorem dX11_digest_22 : decode cX11_digest 22 = .ok (.bipush 6, 2) := by decide +kernel
theorem dX11_digest_24 : decode cX11_digest 24 = .ok (.if_icmp .gt 22, 3) := by decide +kernel
theorem dX11_digest_27 : decode cX11_digest 27 = .ok (.lload_n 1, 1) := by decide +kernel
theorem dX11_digest_28 : decode cX11_digest 28 = .ok (.aload_n 0, 1) := by decide +kernel
theorem dX11_digest_29 : decode cX11_digest 29 = .ok (.iload_n 3, 1) := by decide +kernel
theorem dX11_digest_30 : decode cX11_digest 30 = .ok (.iload 4, 2) := by decide +kernel
theorem dX11_digest_32 : decode cX11_digest 32 = .ok (.invokevirtual 81, 3) := by decide +kernel
theorem dX11_digest_35 : decode cX11_digest 35 = .ok (.i2l, 1) := by decide +kernel
theorem dX11_digest_36 : decode cX11_digest 36 = .ok (.invokestatic 251, 3) := by decide +kernel
theorem dX11_digest_39 : decode cX11_digest 39 = .ok (.lstore_n 1, 1) := by decide +kernel
theorem dX11_digest_40 : decode cX11_digest 40 = .ok (.iinc 4 1, 3) := by decide +kernel
theorem dX11_digest_43 : decode cX11_digest 43 = .ok (.goto (-23), 3) := by decide +kernel
theorem dX11_digest_46 : decode cX11_digest 46 = .ok (.aload_n 0, 1) := by decide +kernel
theorem dX11_digest_47 : decode cX11_digest 47 = .ok (.lload_n 1, 1) := by decide +kernel
theorem dX11_digest_48 : decode cX11_digest 48 = .ok (.iload_n 3, 1) := by decide +kernel
theorem dX11_digest_49 : decode cX11_digest 49 = .ok (.invokevirtual 255, 3) := by decide +kernel
theorem dX11_digest_52 : decode cX11_digest 52 = .ok (.lstore_n 1, 1) := by decide +kernel
theorem dX11_digest_53 : decode cX11_digest 53 = .ok (.iinc 3 1, 3) := by decide +kernel
theorem dX11_digest_56 : decode cX11_digest 56 = .ok (.goto (-50), 3) := by decide +kernel
theorem dX11_digest_59 : decode cX11_digest 59 = .ok (.iconst 0, 1) := by decide +kernel
theorem dX11_digest_60 : decode cX11_digest 60 = .ok (.istore_n 3, 1) := by decide +kernel
theorem dX11_digest_61 : decode cX11_digest 61 = .ok (.iload_n 3, 1) := by decide +kernel
theorem dX11_digest_62 : decode cX11_digest 62 = .ok (.aload_n 0, 1) := by decide +kernel
theorem dX11_digest_63 : decode cX11_digest 63 = .ok (.getfield 19, 3) := by decide +kernel
theorem dX11_digest_66 : decode cX11_digest 66 = .ok (.getfield 240, 3) := by decide +kernel
theorem dX11_digest_69 : decode cX11_digest 69 = .ok (.if_icmp .ge 16, 3) := by decide +kernel
theorem dX11_digest_72 : decode cX11_digest 72 = .ok (.aload_n 0, 1) := by decide +kernel
theorem dX11_digest_73 : decode cX11_digest 73 = .ok (.lload_n 1, 1) := by decide +kernel
theorem dX11_digest_74 : decode cX11_digest 74 = .ok (.iload_n 3, 1) := by decide +kernel
theorem dX11_digest_75 : decode cX11_digest 75 = .ok (.invokevirtual 259, 3) := by decide +kernel
theorem dX11_digest_78 : decode cX11_digest 78 = .ok (.lstore_n 1, 1) := by decide +kernel
theorem dX11_digest_79 : decode cX11_digest 79 = .ok (.iinc 3 1, 3) := by decide +kernel
theorem dX11_digest_82 : decode cX11_digest 82 = .ok (.goto (-21), 3) := by decide +kernel
theorem dX11_digest_85 : decode cX11_digest 85 = .ok (.aload_n 0, 1) := by decide +kernel
theorem dX11_digest_86 : decode cX11_digest 86 = .ok (.getfield 19, 3) := by decide +kernel
theorem dX11_digest_89 : decode cX11_digest 89 = .ok (.getfield 74, 3) := by decide +kernel
theorem dX11_digest_92 : decode cX11_digest 92 = .ok (.iconst 2, 1) := by decide +kernel
theorem dX11_digest_93 : decode cX11_digest 93 = .ok (.if_icmp .lt 39, 3) := by decide +kernel
theorem dX11_digest_96 : decode cX11_digest 96 = .ok (.aload_n 0, 1) := by decide +kernel
theorem dX11_digest_97 : decode cX11_digest 97 = .ok (.getfield 43, 3) := by decide +kernel
theorem dX11_digest_100 : decode cX11_digest 100 = .ok (.aload_n 0, 1) := by decide +kernel
theorem dX11_digest_101 : decode cX11_digest 101 = .ok (.getfield 19, 3) := by decide +kernel
theorem dX11_digest_104 : decode cX11_digest 104 = .ok (.iconst 0, 1) := by decide +kernel
theorem dX11_digest_105 : decode cX11_digest 105 = .ok (.iconst 1, 1) := by decide +kernel
theorem dX11_digest_106 : decode cX11_digest 106 = .ok (.iconst 2, 1) := by decide +kernel
theorem dX11_digest_107 : decode cX11_digest 107 = .ok (.invokevirtual 200, 3) := by decide +kernel
theorem dX11_digest_110 : decode cX11_digest 110 = .ok (.lload_n 1, 1) := by decide +kernel
theorem dX11_digest_111 : decode cX11_digest 111 = .ok (.aload_n 0, 1) := by decide +kernel
theorem dX11_digest_112 : decode cX11_digest 112 = .ok (.getfield 43, 3) := by decide +kernel
theorem dX11_digest_115 : decode cX11_digest 115 = .ok (.getfield 204, 3) := by decide +kernel
theorem dX11_digest_118 : decode cX11_digest 118 = .ok (.invokestatic 251, 3) := by decide +kernel
theorem dX11_digest_121 : decode cX11_digest 121 = .ok (.aload_n 0, 1) := by decide +kernel
theorem dX11_digest_122 : decode cX11_digest 122 = .ok (.getfield 43, 3) := by decide +kernel
theorem dX11_digest_125 : decode cX11_digest 125 = .ok (.getfield 208, 3) := by decide +kernel
theorem dX11_digest_128 : decode cX11_digest 128 = .ok (.invokestatic 251, 3) := by decide +kernel
theorem dX11_digest_131 : decode cX11_digest 131 = .ok (.lstore_n 1, 1) := by decide +kernel
theorem dX11_digest_132 : decode cX11_digest 132 = .ok (.iconst 0, 1) := by decide +kernel
theorem dX11_digest_133 : decode cX11_digest 133 = .ok (.istore_n 3, 1) := by decide +kernel
theorem dX11_digest_134 : decode cX11_digest 134 = .ok (.iload_n 3, 1) := by decide +kernel
theorem dX11_digest_135 : decode cX11_digest 135 = .ok (.aload_n 0, 1) := by decide +kernel
theorem dX11_digest_136 : decode cX11_digest 136 = .ok (.getfield 10, 3) := by decide +kernel
theorem dX11_digest_139 : decode cX11_digest 139 = .ok (.getfield 47, 3) := by decide +kernel
theorem dX11_digest_142 : decode cX11_digest 142 = .ok (.if_icmp .ge 23, 3) := by decide +kernel
theorem dX11_digest_145 : decode cX11_digest 145 = .ok (.lload_n 1, 1) := by decide +kernel
theorem dX11_digest_146 : decode cX11_digest 146 = .ok (.aload_n 0, 1) := by decide +kernel
theorem dX11_digest_147 : decode cX11_digest 147 = .ok (.getfield 10, 3) := by decide +kernel
theorem dX11_digest_150 : decode cX11_digest 150 = .ok (.iload_n 3, 1) := by decide +kernel
theorem dX11_digest_151 : decode cX11_digest 151 = .ok (.invokevirtual 262, 3) := by decide +kernel
theorem dX11_digest_154 : decode cX11_digest 154 = .ok (.i2l, 1) := by decide +kernel
theorem dX11_digest_155 : decode cX11_digest 155 = .ok (.invokestatic 251, 3) := by decide +kernel
theorem dX11_digest_158 : decode cX11_digest 158 = .ok (.lstore_n 1, 1) := by decide +kernel
theorem dX11_digest_159 : decode cX11_digest 159 = .ok (.iinc 3 1, 3) := by decide +kernel
theorem dX11_digest_162 : decode cX11_digest 162 = .ok (.goto (-28), 3) := by decide +kernel
theorem dX11_digest_165 : decode cX11_digest 165 = .ok (.iconst 0, 1) := by decide +kernel
theorem dX11_digest_166 : decode cX11_digest 166 = .ok (.istore_n 3, 1) := by decide +kernel
theorem dX11_digest_167 : decode cX11_digest 167 = .ok (.iload_n 3, 1) := by decide +kernel
theorem dX11_digest_168 : decode cX11_digest 168 = .ok (.bipush 11, 2) := by decide +kernel
theorem dX11_digest_170 : decode cX11_digest 170 = .ok (.if_icmp .gt 20, 3) := by decide +kernel
theorem dX11_digest_173 : decode cX11_digest 173 = .ok (.lload_n 1, 1) := by decide +kernel
theorem dX11_digest_174 : decode cX11_digest 174 = .ok (.aload_n 0, 1) := by decide +kernel
theorem dX11_digest_175 : decode cX11_digest 175 = .ok (.iload_n 3, 1) := by decide +kernel
theorem dX11_digest_176 : decode cX11_digest 176 = .ok (.invokevirtual 265, 3) := by decide +kernel
theorem dX11_digest_179 : decode cX11_digest 179 = .ok (.i2l, 1) := by decide +kernel
theorem dX11_digest_180 : decode cX11_digest 180 = .ok (.invokestatic 251, 3) := by decide +kernel
theorem dX11_digest_183 : decode cX11_digest 183 = .ok (.lstore_n 1, 1) := by decide +kernel
theorem dX11_digest_184 : decode cX11_digest 184 = .ok (.iinc 3 1, 3) := by decide +kernel
theorem dX11_digest_187 : decode cX11_digest 187 = .ok (.goto (-20), 3) := by decide +kernel
theorem dX11_digest_190 : decode cX11_digest 190 = .ok (.lload_n 1, 1) := by decide +kernel
theorem dX11_digest_191 : decode cX11_digest 191 = .ok (.lreturn, 1) := by decide +kernel
set_option maxRecDepth 20000 in
theorem ggX11_mixWays_X9_measure : GoodIn wsX11_mixWays wsX9_measure := goodIn_r _ [9, 10, 11, 12, 13, 14, 15, 16, 17, 18, 19, 20, 21, 22, 23, 24, 25, 26, 27, 28, 29, 30, 31, 32, 33, 34, 35, 36, 37, 38, 39, 40, 41, 42, 43, 44, 45, 46, 47, 48, 49, 50, 51, 52, 53, 54, 55, 56, 57, 58, 59, 60, 61, 62, 63, 64, 65, 66, 67, 68, 8, 69, 70, 71, 72, 73, 110, 111, 112, 113, 114, 115, 116, 117, 118, 119, 120, 121, 122, 123, 124, 125, 126, 127, 128, 129, 130, 131, 132, 133] (by decide +kernel) (by decide +kernel)
set_option maxRecDepth 20000 in
theorem gX11_mixWays_X9_measure : GoodIn wsX11_mixWays (wsV RX11 159 RX9 yX9_measure wsX9_measure) := goodIn_app (goodIn_of _ (by decide +kernel)) ggX11_mixWays_X9_measure
set_option maxRecDepth 20000 in
theorem ggX11_mixWays_X9_stepsFrom : GoodIn wsX11_mixWays wsX9_stepsFrom := goodIn_r _ [77, 12, 13, 128, 129, 130, 131, 132, 133] (by decide +kernel) (by decide +kernel)
set_option maxRecDepth 20000 in
theorem gX11_mixWays_X9_stepsFrom : GoodIn wsX11_mixWays (wsV RX11 163 RX9 yX9_stepsFrom wsX9_stepsFrom) := goodIn_app (goodIn_of _ (by decide +kernel)) ggX11_mixWays_X9_stepsFrom
set_option maxRecDepth 20000 in
theorem ggX11_mixWays_X11_mix : GoodIn wsX11_mixWays wsX11_mix := goodIn_r _ [81, 82] (by decide +kernel) (by decide +kernel)
set_option maxRecDepth 20000 in
theorem gX11_mixWays_X11_mix : GoodIn wsX11_mixWays (va_wsS RX11 251 yX11_mix wsX11_mix) := goodIn_app (goodIn_of _ (by decide +kernel)) ggX11_mixWays_X11_mix
set_option maxRecDepth 20000 in
theorem ggX11_mixWays_X9_legFrom : GoodIn wsX11_mixWays wsX9_legFrom := goodIn_r _ [86, 87, 88, 89, 8, 90, 10, 11, 12, 91, 92, 93, 20, 94, 95, 96, 97, 98, 99, 100, 110, 111, 112, 113, 114, 115, 116, 117, 118, 119, 120, 121, 122, 123, 124, 125, 126, 127, 128, 129, 130, 131, 132, 133] (by decide +kernel) (by decide +kernel)
set_option maxRecDepth 20000 in
theorem gX11_mixWays_X9_legFrom : GoodIn wsX11_mixWays (wsV RX11 167 RX9 yX9_legFrom wsX9_legFrom) := goodIn_app (goodIn_of _ (by decide +kernel)) ggX11_mixWays_X9_legFrom
theorem dX11_mixWays_0 : decode cX11_mixWays 0 = .ok (.lload_n 1, 1) := by decide +kernel
theorem dX11_mixWays_1 : decode cX11_mixWays 1 = .ok (.lstore 4, 2) := by decide +kernel
theorem dX11_mixWays_3 : decode cX11_mixWays 3 = .ok (.aload_n 0, 1) := by decide +kernel
theorem dX11_mixWays_4 : decode cX11_mixWays 4 = .ok (.getfield 19, 3) := by decide +kernel
theorem dX11_mixWays_7 : decode cX11_mixWays 7 = .ok (.getfield 95, 3) := by decide +kernel
theorem dX11_mixWays_10 : decode cX11_mixWays 10 = .ok (.iload_n 3, 1) := by decide +kernel
theorem dX11_mixWays_11 : decode cX11_mixWays 11 = .ok (.iaload, 1) := by decide +kernel
theorem dX11_mixWays_12 : decode cX11_mixWays 12 = .ok (.istore 6, 2) := by decide +kernel
theorem dX11_mixWays_14 : decode cX11_mixWays 14 = .ok (.iconst 0, 1) := by decide +kernel
theorem dX11_mixWays_15 : decode cX11_mixWays 15 = .ok (.istore 7, 2) := by decide +kernel
theorem dX11_mixWays_17 : decode cX11_mixWays 17 = .ok (.iload 7, 2) := by decide +kernel
theorem dX11_mixWays_19 : decode cX11_mixWays 19 = .ok (.aload_n 0, 1) := by decide +kernel
theorem dX11_mixWays_20 : decode cX11_mixWays 20 = .ok (.getfield 19, 3) := by decide +kernel
theorem dX11_mixWays_23 : decode cX11_mixWays 23 = .ok (.getfield 237, 3) := by decide +kernel
theorem dX11_mixWays_26 : decode cX11_mixWays 26 = .ok (.if_icmp .ge 62, 3) := by decide +kernel
theorem dX11_mixWays_29 : decode cX11_mixWays 29 = .ok (.aload_n 0, 1) := by decide +kernel
theorem dX11_mixWays_30 : decode cX11_mixWays 30 = .ok (.getfield 29, 3) := by decide +kernel
theorem dX11_mixWays_33 : decode cX11_mixWays 33 = .ok (.aload_n 0, 1) := by decide +kernel
theorem dX11_mixWays_34 : decode cX11_mixWays 34 = .ok (.getfield 19, 3) := by decide +kernel
theorem dX11_mixWays_37 : decode cX11_mixWays 37 = .ok (.iload_n 3, 1) := by decide +kernel
theorem dX11_mixWays_38 : decode cX11_mixWays 38 = .ok (.iload 7, 2) := by decide +kernel
theorem dX11_mixWays_40 : decode cX11_mixWays 40 = .ok (.invokevirtual 159, 3) := by decide +kernel
theorem dX11_mixWays_43 : decode cX11_mixWays 43 = .ok (.lload 4, 2) := by decide +kernel
theorem dX11_mixWays_45 : decode cX11_mixWays 45 = .ok (.aload_n 0, 1) := by decide +kernel
theorem dX11_mixWays_46 : decode cX11_mixWays 46 = .ok (.getfield 29, 3) := by decide +kernel
theorem dX11_mixWays_49 : decode cX11_mixWays 49 = .ok (.iload 6, 2) := by decide +kernel
theorem dX11_mixWays_51 : decode cX11_mixWays 51 = .ok (.invokevirtual 163, 3) := by decide +kernel
theorem dX11_mixWays_54 : decode cX11_mixWays 54 = .ok (.i2l, 1) := by decide +kernel
theorem dX11_mixWays_55 : decode cX11_mixWays 55 = .ok (.invokestatic 251, 3) := by decide +kernel
theorem dX11_mixWays_58 : decode cX11_mixWays 58 = .ok (.lstore 4, 2) := by decide +kernel
theorem dX11_mixWays_60 : decode cX11_mixWays 60 = .ok (.lload 4, 2) := by decide +kernel
theorem dX11_mixWays_62 : decode cX11_mixWays 62 = .ok (.aload_n 0, 1) := by decide +kernel
theorem dX11_mixWays_63 : decode cX11_mixWays 63 = .ok (.getfield 29, 3) := by decide +kernel
theorem dX11_mixWays_66 : decode cX11_mixWays 66 = .ok (.aload_n 0, 1) := by decide +kernel
theorem dX11_mixWays_67 : decode cX11_mixWays 67 = .ok (.getfield 19, 3) := by decide +kernel
theorem dX11_mixWays_70 : decode cX11_mixWays 70 = .ok (.iload 6, 2) := by decide +kernel
theorem dX11_mixWays_72 : decode cX11_mixWays 72 = .ok (.iconst 0, 1) := by decide +kernel
theorem dX11_mixWays_73 : decode cX11_mixWays 73 = .ok (.invokevirtual 167, 3) := by decide +kernel
theorem dX11_mixWays_76 : decode cX11_mixWays 76 = .ok (.i2l, 1) := by decide +kernel
theorem dX11_mixWays_77 : decode cX11_mixWays 77 = .ok (.invokestatic 251, 3) := by decide +kernel
theorem dX11_mixWays_80 : decode cX11_mixWays 80 = .ok (.lstore 4, 2) := by decide +kernel
theorem dX11_mixWays_82 : decode cX11_mixWays 82 = .ok (.iinc 7 1, 3) := by decide +kernel
theorem dX11_mixWays_85 : decode cX11_mixWays 85 = .ok (.goto (-68), 3) := by decide +kernel
theorem dX11_mixWays_88 : decode cX11_mixWays 88 = .ok (.lload 4, 2) := by decide +kernel
theorem dX11_mixWays_90 : decode cX11_mixWays 90 = .ok (.lreturn, 1) := by decide +kernel
set_option maxRecDepth 20000 in
theorem ggX11_mixPassage_X11_tellPassage : GoodIn wsX11_mixPassage wsX11_tellPassage := goodIn_r _ [8, 2, 9, 10, 11, 110, 111, 112, 113, 114, 115, 116, 117, 118, 125, 126, 127, 128, 129, 130, 131, 132, 133, 134, 135, 136, 137, 138, 139, 140, 141, 142] (by decide +kernel) (by decide +kernel)
set_option maxRecDepth 20000 in
theorem gX11_mixPassage_X11_tellPassage : GoodIn wsX11_mixPassage (wsV RX11 130 RX11 yX11_tellPassage wsX11_tellPassage) := goodIn_app (goodIn_of _ (by decide +kernel)) ggX11_mixPassage_X11_tellPassage
set_option maxRecDepth 20000 in
theorem ggX11_mixPassage_X11_mix : GoodIn wsX11_mixPassage wsX11_mix := goodIn_r _ [14, 15] (by decide +kernel) (by decide +kernel)
set_option maxRecDepth 20000 in
theorem gX11_mixPassage_X11_mix : GoodIn wsX11_mixPassage (va_wsS RX11 251 yX11_mix wsX11_mix) := goodIn_app (goodIn_of _ (by decide +kernel)) ggX11_mixPassage_X11_mix
set_option maxRecDepth 20000 in
theorem ggX11_mixPassage_X6_arrange : GoodIn wsX11_mixPassage wsX6_arrange := goodIn_r _ [20, 21, 22, 23, 24, 25, 26, 27, 28, 29, 30, 31, 32, 33, 34, 35, 36, 37, 38, 39, 40, 41, 42, 43, 44, 45, 46, 47, 48, 49, 50, 51, 52, 53, 54, 55, 56, 57, 58, 59, 60, 61, 62, 63, 64, 65, 66, 67, 68, 69, 70, 71, 72, 73, 74, 75, 76, 77, 78, 79, 80, 81, 19, 82, 83, 84, 85, 86, 87, 88, 89, 90, 91, 92, 93, 94, 95, 96, 97, 98, 99, 100, 125, 126, 127, 128, 129, 130, 131, 132, 133, 134, 135, 136, 137, 138, 139, 140, 141, 142, 119, 120, 121, 122, 123, 124] (by decide +kernel) (by decide +kernel)
set_option maxRecDepth 20000 in
theorem gX11_mixPassage_X6_arrange : GoodIn wsX11_mixPassage (wsV RX11 186 RX6 yX6_arrange wsX6_arrange) := goodIn_app (goodIn_of _ (by decide +kernel)) ggX11_mixPassage_X6_arrange
set_option maxRecDepth 20000 in
theorem ggX11_mixPassage_X6_partnerOf : GoodIn wsX11_mixPassage wsX6_partnerOf := goodIn_r _ [104, 96, 105, 106, 107, 30, 108, 109, 119, 120, 121, 122, 123, 124, 125, 126, 127, 128, 129, 130, 131, 132, 133, 134, 135, 136, 137, 138, 139, 140, 141, 142] (by decide +kernel) (by decide +kernel)
set_option maxRecDepth 20000 in
theorem gX11_mixPassage_X6_partnerOf : GoodIn wsX11_mixPassage (wsV RX11 193 RX6 yX6_partnerOf wsX6_partnerOf) := goodIn_app (goodIn_of _ (by decide +kernel)) ggX11_mixPassage_X6_partnerOf
theorem dX11_mixPassage_0 : decode cX11_mixPassage 0 = .ok (.lload_n 1, 1) := by decide +kernel
theorem dX11_mixPassage_1 : decode cX11_mixPassage 1 = .ok (.lstore 4, 2) := by decide +kernel
theorem dX11_mixPassage_3 : decode cX11_mixPassage 3 = .ok (.iconst 0, 1) := by decide +kernel
theorem dX11_mixPassage_4 : decode cX11_mixPassage 4 = .ok (.istore 6, 2) := by decide +kernel
theorem dX11_mixPassage_6 : decode cX11_mixPassage 6 = .ok (.iload 6, 2) := by decide +kernel
theorem dX11_mixPassage_8 : decode cX11_mixPassage 8 = .ok (.iconst 2, 1) := by decide +kernel
theorem dX11_mixPassage_9 : decode cX11_mixPassage 9 = .ok (.if_icmp .gt 24, 3) := by decide +kernel
theorem dX11_mixPassage_12 : decode cX11_mixPassage 12 = .ok (.lload 4, 2) := by decide +kernel
theorem dX11_mixPassage_14 : decode cX11_mixPassage 14 = .ok (.aload_n 0, 1) := by decide +kernel
theorem dX11_mixPassage_15 : decode cX11_mixPassage 15 = .ok (.iload_n 3, 1) := by decide +kernel
theorem dX11_mixPassage_16 : decode cX11_mixPassage 16 = .ok (.iload 6, 2) := by decide +kernel
theorem dX11_mixPassage_18 : decode cX11_mixPassage 18 = .ok (.invokevirtual 130, 3) := by decide +kernel
theorem dX11_mixPassage_21 : decode cX11_mixPassage 21 = .ok (.i2l, 1) := by decide +kernel
theorem dX11_mixPassage_22 : decode cX11_mixPassage 22 = .ok (.invokestatic 251, 3) := by decide +kernel
theorem dX11_mixPassage_25 : decode cX11_mixPassage 25 = .ok (.lstore 4, 2) := by decide +kernel
theorem dX11_mixPassage_27 : decode cX11_mixPassage 27 = .ok (.iinc 6 1, 3) := by decide +kernel
theorem dX11_mixPassage_30 : decode cX11_mixPassage 30 = .ok (.goto (-24), 3) := by decide +kernel
theorem dX11_mixPassage_33 : decode cX11_mixPassage 33 = .ok (.aload_n 0, 1) := by decide +kernel
theorem dX11_mixPassage_34 : decode cX11_mixPassage 34 = .ok (.getfield 36, 3) := by decide +kernel
theorem dX11_mixPassage_37 : decode cX11_mixPassage 37 = .ok (.aload_n 0, 1) := by decide +kernel
theorem dX11_mixPassage_38 : decode cX11_mixPassage 38 = .ok (.getfield 19, 3) := by decide +kernel
theorem dX11_mixPassage_41 : decode cX11_mixPassage 41 = .ok (.iload_n 3, 1) := by decide +kernel
theorem dX11_mixPassage_42 : decode cX11_mixPassage 42 = .ok (.invokevirtual 186, 3) := by decide +kernel
theorem dX11_mixPassage_45 : decode cX11_mixPassage 45 = .ok (.lload 4, 2) := by decide +kernel
theorem dX11_mixPassage_47 : decode cX11_mixPassage 47 = .ok (.aload_n 0, 1) := by decide +kernel
theorem dX11_mixPassage_48 : decode cX11_mixPassage 48 = .ok (.getfield 36, 3) := by decide +kernel
theorem dX11_mixPassage_51 : decode cX11_mixPassage 51 = .ok (.getfield 190, 3) := by decide +kernel
theorem dX11_mixPassage_54 : decode cX11_mixPassage 54 = .ok (.i2l, 1) := by decide +kernel
theorem dX11_mixPassage_55 : decode cX11_mixPassage 55 = .ok (.invokestatic 251, 3) := by decide +kernel
theorem dX11_mixPassage_58 : decode cX11_mixPassage 58 = .ok (.lstore 4, 2) := by decide +kernel
theorem dX11_mixPassage_60 : decode cX11_mixPassage 60 = .ok (.iconst 0, 1) := by decide +kernel
theorem dX11_mixPassage_61 : decode cX11_mixPassage 61 = .ok (.istore 6, 2) := by decide +kernel
theorem dX11_mixPassage_63 : decode cX11_mixPassage 63 = .ok (.iload 6, 2) := by decide +kernel
theorem dX11_mixPassage_65 : decode cX11_mixPassage 65 = .ok (.iconst 5, 1) := by decide +kernel
theorem dX11_mixPassage_66 : decode cX11_mixPassage 66 = .ok (.if_icmp .ge 30, 3) := by decide +kernel
theorem dX11_mixPassage_69 : decode cX11_mixPassage 69 = .ok (.lload 4, 2) := by decide +kernel
theorem dX11_mixPassage_71 : decode cX11_mixPassage 71 = .ok (.aload_n 0, 1) := by decide +kernel
theorem dX11_mixPassage_72 : decode cX11_mixPassage 72 = .ok (.getfield 36, 3) := by decide +kernel
theorem dX11_mixPassage_75 : decode cX11_mixPassage 75 = .ok (.aload_n 0, 1) := by decide +kernel
theorem dX11_mixPassage_76 : decode cX11_mixPassage 76 = .ok (.getfield 19, 3) := by decide +kernel
theorem dX11_mixPassage_79 : decode cX11_mixPassage 79 = .ok (.iload 6, 2) := by decide +kernel
theorem dX11_mixPassage_81 : decode cX11_mixPassage 81 = .ok (.invokevirtual 193, 3) := by decide +kernel
theorem dX11_mixPassage_84 : decode cX11_mixPassage 84 = .ok (.i2l, 1) := by decide +kernel
theorem dX11_mixPassage_85 : decode cX11_mixPassage 85 = .ok (.invokestatic 251, 3) := by decide +kernel
theorem dX11_mixPassage_88 : decode cX11_mixPassage 88 = .ok (.lstore 4, 2) := by decide +kernel
theorem dX11_mixPassage_90 : decode cX11_mixPassage 90 = .ok (.iinc 6 1, 3) := by decide +kernel
theorem dX11_mixPassage_93 : decode cX11_mixPassage 93 = .ok (.goto (-30), 3) := by decide +kernel
theorem dX11_mixPassage_96 : decode cX11_mixPassage 96 = .ok (.lload 4, 2) := by decide +kernel
theorem dX11_mixPassage_98 : decode cX11_mixPassage 98 = .ok (.lreturn, 1) := by decide +kernel
theorem dX11_mix_0 : decode cX11_mix 0 = .ok (.ldc2_w 268, 3) := by decide +kernel
theorem dX11_mix_3 : decode cX11_mix 3 = .ok (.lload_n 0, 1) := by decide +kernel
theorem dX11_mix_4 : decode cX11_mix 4 = .ok (.lmul, 1) := by decide +kernel
theorem dX11_mix_5 : decode cX11_mix 5 = .ok (.lload_n 2, 1) := by decide +kernel
theorem dX11_mix_6 : decode cX11_mix 6 = .ok (.ladd, 1) := by decide +kernel
theorem dX11_mix_7 : decode cX11_mix 7 = .ok (.lreturn, 1) := by decide +kernel
