set_option maxRecDepth 20000 in
theorem ggL_law_X11_init : GoodIn wsL_law wsX11_init := goodIn_r _ [8, 9, 10, 11, 12, 13, 14, 15, 16, 17, 18, 19, 20, 21, 22, 23, 24, 25, 26, 27, 28, 29, 30, 31, 32, 33, 34, 35, 36, 37, 38, 39, 40, 41, 42, 43, 44, 45, 46, 47, 48, 49, 50, 51, 52, 53, 54, 55, 56, 57, 58, 59, 60, 61, 62, 63, 64, 65, 66, 67, 68, 69, 70, 71, 72, 73, 74, 75, 76, 77, 78, 79, 80, 81, 82, 83, 84, 85, 86, 87, 88, 89, 90, 91, 92, 93, 94, 95, 96, 97, 98, 99, 100, 101, 102, 103, 104, 105, 106, 107, 1083, 1084, 1025, 1026, 1027, 1028, 1029, 1030, 1031, 1032, 1033, 1085, 1086, 1087, 1088, 1089, 1090, 1091, 1092, 1093, 1094, 1095, 1096, 1097, 1098, 1099, 1100, 1101, 1102, 1103, 1104, 1105, 1106, 1107, 1108, 1109, 1110, 1111, 1112, 1113, 1114, 1115, 1116, 1117, 1118, 1119, 1120, 1121, 1122] (by decide +kernel) (by decide +kernel)
set_option maxRecDepth 20000 in
theorem gL_law_X11_init : GoodIn wsL_law (wsX11_init) := ggL_law_X11_init
set_option maxRecDepth 20000 in
theorem ggL_law_X12_init : GoodIn wsL_law wsX12_init := goodIn_r _ [110, 111, 10, 11, 36, 112, 113, 114, 115, 116, 117, 118, 119, 120, 121, 122, 123, 124, 125, 126, 127, 128, 129, 130, 131, 101, 132, 133, 134, 135, 136, 137, 138, 139, 140, 141, 142, 143, 144, 1034, 1035, 1036, 1037, 1038, 1039, 1040, 1041, 1042, 1043, 1044, 1045, 1046, 1047, 1048, 1049, 1050, 1051, 1052, 1053, 1054, 1055, 1056, 1057, 1058, 1059, 1060, 1061, 1062, 1063, 1064, 1065, 1066, 1067, 1068, 1069, 1070, 1071, 1072, 1073, 1074, 1075, 1076, 1077, 1078, 1079, 1080, 1081, 1082] (by decide +kernel) (by decide +kernel)
set_option maxRecDepth 20000 in
theorem gL_law_X12_init : GoodIn wsL_law (wsX12_init) := ggL_law_X12_init
set_option maxRecDepth 20000 in
theorem ggL_law_X11_letter : GoodIn wsL_law wsX11_letter := goodIn_r _ [148, 15, 149, 150, 151, 152, 14, 153, 154, 37, 1025, 1026, 1027, 1028, 1029, 1030, 1031, 1032, 1033, 1083, 1084] (by decide +kernel) (by decide +kernel)
set_option maxRecDepth 20000 in
theorem gL_law_X11_letter : GoodIn wsL_law (wsV RL 13 RX11 yX11_letter wsX11_letter) := goodIn_app (goodIn_of _ (by decide +kernel)) ggL_law_X11_letter
set_option maxRecDepth 20000 in
theorem ggL_law_X12_letter : GoodIn wsL_law wsX12_letter := goodIn_r _ [158, 159, 125, 160, 161, 5, 162, 1034, 1035, 1036, 1037, 1038, 1039, 1040, 1041, 1042, 1043, 1044, 1045, 1046, 1047, 1048, 1049, 1050, 1051, 1052, 1053, 1054, 1055, 1056, 1057, 1058, 1059, 1060, 1061, 1062, 1063, 1064, 1065, 1066, 1067, 1068, 1069, 1070, 1071, 1072, 1073, 1074, 1075, 1076, 1077, 1078, 1079, 1080, 1081, 1082] (by decide +kernel) (by decide +kernel)
set_option maxRecDepth 20000 in
theorem gL_law_X12_letter : GoodIn wsL_law (wsV RL 17 RX12 yX12_letter wsX12_letter) := goodIn_app (goodIn_of _ (by decide +kernel)) ggL_law_X12_letter
set_option maxRecDepth 20000 in
theorem ggL_law_X11_blank : GoodIn wsL_law wsX11_blank := goodIn_r _ [166, 15, 149, 1025, 1026, 1027, 1028, 1029, 1030, 1031, 1032, 1033, 1083, 1084] (by decide +kernel) (by decide +kernel)
set_option maxRecDepth 20000 in
theorem gL_law_X11_blank : GoodIn wsL_law (wsV RL 18 RX11 yX11_blank wsX11_blank) := goodIn_app (goodIn_of _ (by decide +kernel)) ggL_law_X11_blank
set_option maxRecDepth 20000 in
theorem ggL_law_X12_blank : GoodIn wsL_law wsX12_blank := goodIn_r _ [170, 159, 1034, 1035, 1036, 1037, 1038, 1039, 1040, 1041, 1042, 1043, 1044, 1045, 1046, 1047, 1048, 1049, 1050, 1051, 1052, 1053, 1054, 1055, 1056, 1057, 1058, 1059, 1060, 1061, 1062, 1063, 1064, 1065, 1066, 1067, 1068, 1069, 1070, 1071, 1072, 1073, 1074, 1075, 1076, 1077, 1078, 1079, 1080, 1081, 1082] (by decide +kernel) (by decide +kernel)
set_option maxRecDepth 20000 in
theorem gL_law_X12_blank : GoodIn wsL_law (wsV RL 22 RX12 yX12_blank wsX12_blank) := goodIn_app (goodIn_of _ (by decide +kernel)) ggL_law_X12_blank
set_option maxRecDepth 20000 in
theorem ggL_law_X11_fault : GoodIn wsL_law wsX11_fault := goodIn_r _ [174, 15, 175, 176, 177, 14, 178, 154, 179, 180, 181, 182, 37, 183, 184, 185, 186, 187, 188, 189, 190, 191, 192, 193, 194, 195, 196, 197, 198, 199, 200, 201, 202, 203, 204, 205, 206, 207, 208, 209, 210, 211, 212, 213, 214, 215, 216, 217, 218, 219, 220, 221, 222, 223, 224, 225, 226, 227, 228, 229, 230, 231, 232, 233, 234, 235, 236, 237, 238, 239, 240, 241, 242, 243, 244, 245, 246, 247, 248, 249, 250, 251, 252, 253, 254, 255, 256, 257, 258, 259, 260, 261, 262, 263, 264, 265, 266, 267, 268, 269, 270, 271, 272, 273, 274, 275, 276, 277, 278, 279, 280, 281, 282, 283, 284, 285, 286, 287, 288, 289, 290, 291, 292, 293, 294, 295, 296, 297, 298, 299, 1025, 1026, 1027, 1028, 1029, 1030, 1031, 1032, 1033, 1083, 1084] (by decide +kernel) (by decide +kernel)
set_option maxRecDepth 20000 in
theorem gL_law_X11_fault : GoodIn wsL_law (wsV RL 23 RX11 yX11_fault wsX11_fault) := goodIn_app (goodIn_of _ (by decide +kernel)) ggL_law_X11_fault
set_option maxRecDepth 20000 in
theorem ggL_law_X12_fault : GoodIn wsL_law wsX12_fault := goodIn_r _ [303, 304, 305, 306, 5, 307, 308, 309, 310, 311, 312, 313, 314, 315, 316, 317, 318, 159, 125, 160, 161, 162, 319, 320, 321, 322, 323, 324, 325, 326, 327, 328, 329, 330, 331, 332, 333, 1034, 1035, 1036, 1037, 1038, 1039, 1040, 1041, 1042, 1043, 1044, 1045, 1046, 1047, 1048, 1049, 1050, 1051, 1052, 1053, 1054, 1055, 1056, 1057, 1058, 1059, 1060, 1061, 1062, 1063, 1064, 1065, 1066, 1067, 1068, 1069, 1070, 1071, 1072, 1073, 1074, 1075, 1076, 1077, 1078, 1079, 1080, 1081, 1082] (by decide +kernel) (by decide +kernel)
set_option maxRecDepth 20000 in
theorem gL_law_X12_fault : GoodIn wsL_law (wsV RL 26 RX12 yX12_fault wsX12_fault) := goodIn_app (goodIn_of _ (by decide +kernel)) ggL_law_X12_fault
set_option maxRecDepth 20000 in
theorem ggL_law_X11_ministry : GoodIn wsL_law wsX11_ministry := goodIn_r _ [337, 15, 19, 149, 338, 339, 340, 341, 342, 343, 14, 344, 154, 179, 180, 181, 182, 37, 345, 176, 177, 178, 183, 184, 185, 186, 187, 188, 189, 190, 191, 192, 193, 194, 195, 196, 197, 198, 199, 200, 201, 202, 203, 204, 205, 206, 207, 208, 209, 210, 211, 212, 213, 214, 215, 216, 217, 218, 219, 220, 221, 222, 223, 224, 225, 226, 227, 228, 229, 230, 231, 232, 233, 234, 235, 236, 237, 238, 239, 240, 241, 242, 243, 244, 245, 246, 247, 248, 249, 250, 251, 252, 253, 254, 255, 256, 257, 258, 259, 260, 261, 262, 263, 264, 265, 266, 267, 268, 269, 270, 271, 272, 273, 274, 275, 276, 277, 278, 279, 280, 281, 282, 283, 284, 285, 286, 287, 288, 289, 290, 291, 292, 293, 294, 295, 296, 297, 298, 299, 346, 347, 348, 18, 349, 350, 351, 352, 353, 354, 57, 58, 59, 60, 61, 62, 63, 64, 355, 356, 357, 358, 359, 1025, 1026, 1027, 1028, 1029, 1030, 1031, 1032, 1033, 1083, 1084, 1085, 1086, 1087, 1088, 1089, 1090, 1091, 1092, 1093, 1094, 1095, 1096, 1097, 1098, 1099, 1100, 1101, 1102] (by decide +kernel) (by decide +kernel)
set_option maxRecDepth 20000 in
theorem gL_law_X11_ministry : GoodIn wsL_law (wsV RL 27 RX11 yX11_ministry wsX11_ministry) := goodIn_app (goodIn_of _ (by decide +kernel)) ggL_law_X11_ministry
set_option maxRecDepth 20000 in
theorem ggL_law_X12_ministry : GoodIn wsL_law wsX12_ministry := goodIn_r _ [363, 308, 125, 364, 309, 365, 310, 366, 112, 113, 114, 115, 116, 117, 118, 119, 367, 368, 369, 159, 304, 305, 306, 5, 307, 311, 312, 313, 314, 315, 316, 317, 318, 160, 161, 162, 319, 320, 321, 322, 323, 324, 325, 326, 327, 328, 329, 330, 331, 332, 333, 1034, 1035, 1036, 1037, 1038, 1039, 1040, 1041, 1042, 1043, 1044, 1045, 1046, 1047, 1048, 1049, 1050, 1051, 1052, 1053, 1054, 1055, 1056, 1057, 1058, 1059, 1060, 1061, 1062, 1063, 1064, 1065, 1066, 1067, 1068, 1069, 1070, 1071, 1072, 1073, 1074, 1075, 1076, 1077, 1078, 1079, 1080, 1081, 1082] (by decide +kernel) (by decide +kernel)
set_option maxRecDepth 20000 in
theorem gL_law_X12_ministry : GoodIn wsL_law (wsV RL 30 RX12 yX12_ministry wsX12_ministry) := goodIn_app (goodIn_of _ (by decide +kernel)) ggL_law_X12_ministry
set_option maxRecDepth 20000 in
theorem ggL_law_X11_person : GoodIn wsL_law wsX11_person := goodIn_r _ [373, 19, 374, 375, 376, 18, 377, 354, 378, 379, 380, 2, 381, 382, 383, 384, 385, 386, 387, 388, 389, 390, 391, 392, 393, 394, 395, 396, 397, 398, 399, 400, 401, 402, 59, 61, 62, 403, 404, 405, 406, 56, 60, 407, 408, 409, 410, 411, 46, 412, 413, 414, 415, 43, 416, 417, 418, 419, 420, 55, 421, 422, 423, 424, 425, 49, 426, 427, 428, 429, 52, 430, 431, 432, 433, 434, 435, 436, 437, 438, 439, 440, 441, 240, 241, 242, 1025, 1026, 1027, 1028, 1029, 1030, 1031, 1032, 1033, 1085, 1086, 1087, 1088, 1089, 1090, 1091, 1092, 1093, 1094, 1095, 1096, 1097, 1098, 1099, 1100, 1101, 1102] (by decide +kernel) (by decide +kernel)
set_option maxRecDepth 20000 in
theorem gL_law_X11_person : GoodIn wsL_law (wsV RL 31 RX11 yX11_person wsX11_person) := goodIn_app (goodIn_of _ (by decide +kernel)) ggL_law_X11_person
set_option maxRecDepth 20000 in
theorem ggL_law_X12_person : GoodIn wsL_law wsX12_person := goodIn_r _ [445, 446, 447, 448, 5, 449, 366, 160, 161, 162, 450, 451, 452, 453, 115, 116, 117, 118, 119, 454, 455, 456, 457, 369, 120, 121, 122, 123, 458, 459, 460, 461, 462, 463, 464, 465, 466, 467, 468, 469, 114, 470, 471, 472, 473, 474, 365, 475, 476, 477, 478, 479, 480, 481, 1034, 1035, 1036, 1037, 1038, 1039, 1040, 1041, 1042, 1043, 1044, 1045, 1046, 1047, 1048, 1049, 1050, 1051, 1052, 1053, 1054, 1055, 1056, 1057, 1058, 1059, 1060, 1061, 1062, 1063, 1064, 1065, 1066, 1067, 1068, 1069, 1070, 1071, 1072, 1073, 1074, 1075, 1076, 1077, 1078, 1079, 1080, 1081, 1082] (by decide +kernel) (by decide +kernel)
set_option maxRecDepth 20000 in
theorem gL_law_X12_person : GoodIn wsL_law (wsV RL 35 RX12 yX12_person wsX12_person) := goodIn_app (goodIn_of _ (by decide +kernel)) ggL_law_X12_person
set_option maxRecDepth 20000 in
theorem ggL_law_X11_as : GoodIn wsL_law wsX11_as := goodIn_r _ [485, 19, 374, 375, 376, 18, 377, 354, 486, 404, 405, 406, 56, 60, 487, 488, 2, 489, 490, 491, 492, 493, 1025, 1026, 1027, 1028, 1029, 1030, 1031, 1032, 1033, 1085, 1086, 1087, 1088, 1089, 1090, 1091, 1092, 1093, 1094, 1095, 1096, 1097, 1098, 1099, 1100, 1101, 1102] (by decide +kernel) (by decide +kernel)
set_option maxRecDepth 20000 in
theorem gL_law_X11_as : GoodIn wsL_law (wsV RL 36 RX11 yX11_as wsX11_as) := goodIn_app (goodIn_of _ (by decide +kernel)) ggL_law_X11_as
set_option maxRecDepth 20000 in
theorem ggL_law_X12_as : GoodIn wsL_law wsX12_as := goodIn_r _ [497, 115, 446, 447, 448, 5, 449, 366, 160, 161, 162, 1034, 1035, 1036, 1037, 1038, 1039, 1040, 1041, 1042, 1043, 1044, 1045, 1046, 1047, 1048, 1049, 1050, 1051, 1052, 1053, 1054, 1055, 1056, 1057, 1058, 1059, 1060, 1061, 1062, 1063, 1064, 1065, 1066, 1067, 1068, 1069, 1070, 1071, 1072, 1073, 1074, 1075, 1076, 1077, 1078, 1079, 1080, 1081, 1082] (by decide +kernel) (by decide +kernel)
set_option maxRecDepth 20000 in
theorem gL_law_X12_as : GoodIn wsL_law (wsV RL 39 RX12 yX12_as wsX12_as) := goodIn_app (goodIn_of _ (by decide +kernel)) ggL_law_X12_as
set_option maxRecDepth 20000 in
theorem ggL_law_X11_passage : GoodIn wsL_law wsX11_passage := goodIn_r _ [501, 19, 502, 503, 504, 18, 505, 352, 506, 507, 508, 2, 509, 510, 511, 512, 1025, 1026, 1027, 1028, 1029, 1030, 1031, 1032, 1033, 1085, 1086, 1087, 1088, 1089, 1090, 1091, 1092, 1093, 1094, 1095, 1096, 1097, 1098, 1099, 1100, 1101, 1102] (by decide +kernel) (by decide +kernel)
set_option maxRecDepth 20000 in
theorem gL_law_X11_passage : GoodIn wsL_law (wsV RL 40 RX11 yX11_passage wsX11_passage) := goodIn_app (goodIn_of _ (by decide +kernel)) ggL_law_X11_passage
set_option maxRecDepth 20000 in
theorem ggL_law_X12_passage : GoodIn wsL_law wsX12_passage := goodIn_r _ [516, 517, 518, 519, 5, 520, 365, 160, 161, 162, 521, 522, 523, 524, 112, 113, 114, 1034, 1035, 1036, 1037, 1038, 1039, 1040, 1041, 1042, 1043, 1044, 1045, 1046, 1047, 1048, 1049, 1050, 1051, 1052, 1053, 1054, 1055, 1056, 1057, 1058, 1059, 1060, 1061, 1062, 1063, 1064, 1065, 1066, 1067, 1068, 1069, 1070, 1071, 1072, 1073, 1074, 1075, 1076, 1077, 1078, 1079, 1080, 1081, 1082] (by decide +kernel) (by decide +kernel)
set_option maxRecDepth 20000 in
theorem gL_law_X12_passage : GoodIn wsL_law (wsV RL 43 RX12 yX12_passage wsX12_passage) := goodIn_app (goodIn_of _ (by decide +kernel)) ggL_law_X12_passage
set_option maxRecDepth 20000 in
theorem ggL_law_X11_steps : GoodIn wsL_law wsX11_steps := goodIn_r _ [528, 19, 529, 530, 531, 18, 532, 533, 375, 376, 377, 354, 534, 503, 504, 505, 352, 535, 536, 537, 538, 62, 539, 400, 401, 402, 59, 61, 403, 404, 405, 406, 56, 60, 407, 408, 409, 410, 411, 46, 412, 413, 414, 415, 43, 416, 417, 418, 419, 420, 55, 421, 422, 423, 424, 425, 49, 426, 427, 428, 429, 52, 430, 431, 432, 1025, 1026, 1027, 1028, 1029, 1030, 1031, 1032, 1033, 1085, 1086, 1087, 1088, 1089, 1090, 1091, 1092, 1093, 1094, 1095, 1096, 1097, 1098, 1099, 1100, 1101, 1102] (by decide +kernel) (by decide +kernel)
set_option maxRecDepth 20000 in
theorem gL_law_X11_steps : GoodIn wsL_law (wsV RL 44 RX11 yX11_steps wsX11_steps) := goodIn_app (goodIn_of _ (by decide +kernel)) ggL_law_X11_steps
set_option maxRecDepth 20000 in
theorem ggL_law_X12_steps : GoodIn wsL_law wsX12_steps := goodIn_r _ [543, 446, 447, 448, 5, 449, 366, 160, 161, 162, 517, 518, 519, 520, 365, 544, 545, 546, 547, 462, 463, 464, 465, 466, 467, 468, 469, 114, 116, 117, 115, 1034, 1035, 1036, 1037, 1038, 1039, 1040, 1041, 1042, 1043, 1044, 1045, 1046, 1047, 1048, 1049, 1050, 1051, 1052, 1053, 1054, 1055, 1056, 1057, 1058, 1059, 1060, 1061, 1062, 1063, 1064, 1065, 1066, 1067, 1068, 1069, 1070, 1071, 1072, 1073, 1074, 1075, 1076, 1077, 1078, 1079, 1080, 1081, 1082] (by decide +kernel) (by decide +kernel)
set_option maxRecDepth 20000 in
theorem gL_law_X12_steps : GoodIn wsL_law (wsV RL 48 RX12 yX12_steps wsX12_steps) := goodIn_app (goodIn_of _ (by decide +kernel)) ggL_law_X12_steps
set_option maxRecDepth 20000 in
theorem ggL_law_X11_go : GoodIn wsL_law wsX11_go := goodIn_r _ [551, 19, 386, 529, 530, 531, 18, 532, 533, 375, 376, 377, 354, 534, 503, 504, 505, 352, 552, 553, 554, 555, 63, 556, 557, 558, 559, 57, 58, 560, 561, 562, 563, 62, 64, 355, 539, 400, 401, 402, 59, 61, 403, 404, 405, 406, 56, 60, 407, 408, 409, 410, 411, 46, 412, 413, 414, 415, 43, 416, 417, 418, 419, 420, 55, 421, 422, 423, 424, 425, 49, 426, 427, 428, 429, 52, 430, 431, 432, 564, 565, 566, 567, 1025, 1026, 1027, 1028, 1029, 1030, 1031, 1032, 1033, 1085, 1086, 1087, 1088, 1089, 1090, 1091, 1092, 1093, 1094, 1095, 1096, 1097, 1098, 1099, 1100, 1101, 1102] (by decide +kernel) (by decide +kernel)
set_option maxRecDepth 20000 in
theorem gL_law_X11_go : GoodIn wsL_law (wsV RL 49 RX11 yX11_go wsX11_go) := goodIn_app (goodIn_of _ (by decide +kernel)) ggL_law_X11_go
set_option maxRecDepth 20000 in
theorem ggL_law_X12_go : GoodIn wsL_law wsX12_go := goodIn_r _ [571, 118, 119, 367, 446, 447, 448, 5, 449, 366, 160, 161, 162, 517, 518, 519, 520, 365, 544, 545, 546, 547, 572, 573, 574, 575, 112, 113, 576, 577, 578, 579, 462, 463, 464, 465, 466, 467, 468, 469, 114, 116, 117, 115, 580, 581, 582, 583, 1034, 1035, 1036, 1037, 1038, 1039, 1040, 1041, 1042, 1043, 1044, 1045, 1046, 1047, 1048, 1049, 1050, 1051, 1052, 1053, 1054, 1055, 1056, 1057, 1058, 1059, 1060, 1061, 1062, 1063, 1064, 1065, 1066, 1067, 1068, 1069, 1070, 1071, 1072, 1073, 1074, 1075, 1076, 1077, 1078, 1079, 1080, 1081, 1082] (by decide +kernel) (by decide +kernel)
set_option maxRecDepth 20000 in
theorem gL_law_X12_go : GoodIn wsL_law (wsV RL 52 RX12 yX12_go wsX12_go) := goodIn_app (goodIn_of _ (by decide +kernel)) ggL_law_X12_go
set_option maxRecDepth 20000 in
theorem ggL_law_X11_sin : GoodIn wsL_law wsX11_sin := goodIn_r _ [587, 19, 383, 374, 375, 376, 18, 377, 354, 1025, 1026, 1027, 1028, 1029, 1030, 1031, 1032, 1033, 1085, 1086, 1087, 1088, 1089, 1090, 1091, 1092, 1093, 1094, 1095, 1096, 1097, 1098, 1099, 1100, 1101, 1102] (by decide +kernel) (by decide +kernel)
set_option maxRecDepth 20000 in
theorem gL_law_X11_sin : GoodIn wsL_law (wsV RL 53 RX11 yX11_sin wsX11_sin) := goodIn_app (goodIn_of _ (by decide +kernel)) ggL_law_X11_sin
set_option maxRecDepth 20000 in
theorem ggL_law_X12_sin : GoodIn wsL_law wsX12_sin := goodIn_r _ [591, 116, 446, 447, 448, 5, 449, 366, 160, 161, 162, 1034, 1035, 1036, 1037, 1038, 1039, 1040, 1041, 1042, 1043, 1044, 1045, 1046, 1047, 1048, 1049, 1050, 1051, 1052, 1053, 1054, 1055, 1056, 1057, 1058, 1059, 1060, 1061, 1062, 1063, 1064, 1065, 1066, 1067, 1068, 1069, 1070, 1071, 1072, 1073, 1074, 1075, 1076, 1077, 1078, 1079, 1080, 1081, 1082] (by decide +kernel) (by decide +kernel)
set_option maxRecDepth 20000 in
theorem gL_law_X12_sin : GoodIn wsL_law (wsV RL 56 RX12 yX12_sin wsX12_sin) := goodIn_app (goodIn_of _ (by decide +kernel)) ggL_law_X12_sin
set_option maxRecDepth 20000 in
theorem ggL_law_X11_lie : GoodIn wsL_law wsX11_lie := goodIn_r _ [595, 19, 384, 374, 375, 376, 18, 377, 354, 1025, 1026, 1027, 1028, 1029, 1030, 1031, 1032, 1033, 1085, 1086, 1087, 1088, 1089, 1090, 1091, 1092, 1093, 1094, 1095, 1096, 1097, 1098, 1099, 1100, 1101, 1102] (by decide +kernel) (by decide +kernel)
set_option maxRecDepth 20000 in
theorem gL_law_X11_lie : GoodIn wsL_law (wsV RL 57 RX11 yX11_lie wsX11_lie) := goodIn_app (goodIn_of _ (by decide +kernel)) ggL_law_X11_lie
set_option maxRecDepth 20000 in
theorem ggL_law_X12_lie : GoodIn wsL_law wsX12_lie := goodIn_r _ [599, 117, 446, 447, 448, 5, 449, 366, 160, 161, 162, 1034, 1035, 1036, 1037, 1038, 1039, 1040, 1041, 1042, 1043, 1044, 1045, 1046, 1047, 1048, 1049, 1050, 1051, 1052, 1053, 1054, 1055, 1056, 1057, 1058, 1059, 1060, 1061, 1062, 1063, 1064, 1065, 1066, 1067, 1068, 1069, 1070, 1071, 1072, 1073, 1074, 1075, 1076, 1077, 1078, 1079, 1080, 1081, 1082] (by decide +kernel) (by decide +kernel)
set_option maxRecDepth 20000 in
theorem gL_law_X12_lie : GoodIn wsL_law (wsV RL 60 RX12 yX12_lie wsX12_lie) := goodIn_app (goodIn_of _ (by decide +kernel)) ggL_law_X12_lie
set_option maxRecDepth 20000 in
theorem ggL_law_X11_confess : GoodIn wsL_law wsX11_confess := goodIn_r _ [603, 19, 383, 374, 375, 376, 18, 377, 354, 1025, 1026, 1027, 1028, 1029, 1030, 1031, 1032, 1033, 1085, 1086, 1087, 1088, 1089, 1090, 1091, 1092, 1093, 1094, 1095, 1096, 1097, 1098, 1099, 1100, 1101, 1102] (by decide +kernel) (by decide +kernel)
set_option maxRecDepth 20000 in
theorem gL_law_X11_confess : GoodIn wsL_law (wsV RL 61 RX11 yX11_confess wsX11_confess) := goodIn_app (goodIn_of _ (by decide +kernel)) ggL_law_X11_confess
