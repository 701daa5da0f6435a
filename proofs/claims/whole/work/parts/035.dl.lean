set_option maxRecDepth 20000 in
theorem ggL_law_X11_init : GoodIn wsL_law wsX11_init := goodIn_r _ [8, 9, 10, 11, 12, 13, 14, 15, 16, 17, 18, 19, 20, 21, 22, 23, 24, 25, 26, 27, 28, 29, 30, 31, 32, 33, 34, 35, 36, 37, 38, 39, 40, 41, 42, 43, 44, 45, 46, 47, 48, 49, 50, 51, 52, 53, 54, 55, 56, 57, 58, 59, 60, 61, 62, 63, 64, 65, 66, 67, 68, 69, 70, 71, 72, 73, 74, 75, 76, 77, 78, 79, 80, 81, 82, 83, 84, 85, 86, 87, 88, 89, 90, 91, 92, 93, 94, 95, 96, 97, 98, 99, 100, 101, 102, 103, 104, 105, 106, 107, 1085, 1086, 1027, 1028, 1029, 1030, 1031, 1032, 1033, 1034, 1035, 1087, 1088, 1089, 1090, 1091, 1092, 1093, 1094, 1095, 1096, 1097, 1098, 1099, 1100, 1101, 1102, 1103, 1104, 1105, 1106, 1107, 1108, 1109, 1110, 1111, 1112, 1113, 1114, 1115, 1116, 1117, 1118, 1119, 1120, 1121, 1122, 1123, 1124] (by decide +kernel) (by decide +kernel)
set_option maxRecDepth 20000 in
theorem gL_law_X11_init : GoodIn wsL_law (wsX11_init) := ggL_law_X11_init
set_option maxRecDepth 20000 in
theorem ggL_law_X12_init : GoodIn wsL_law wsX12_init := goodIn_r _ [110, 111, 10, 11, 36, 112, 113, 114, 115, 116, 117, 118, 119, 120, 121, 122, 123, 124, 125, 126, 127, 128, 129, 130, 131, 101, 132, 133, 134, 135, 136, 137, 138, 139, 140, 141, 142, 143, 144, 1036, 1037, 1038, 1039, 1040, 1041, 1042, 1043, 1044, 1045, 1046, 1047, 1048, 1049, 1050, 1051, 1052, 1053, 1054, 1055, 1056, 1057, 1058, 1059, 1060, 1061, 1062, 1063, 1064, 1065, 1066, 1067, 1068, 1069, 1070, 1071, 1072, 1073, 1074, 1075, 1076, 1077, 1078, 1079, 1080, 1081, 1082, 1083, 1084] (by decide +kernel) (by decide +kernel)
set_option maxRecDepth 20000 in
theorem gL_law_X12_init : GoodIn wsL_law (wsX12_init) := ggL_law_X12_init
set_option maxRecDepth 20000 in
theorem ggL_law_X11_letter : GoodIn wsL_law wsX11_letter := goodIn_r _ [148, 15, 149, 150, 151, 152, 14, 153, 154, 37, 1027, 1028, 1029, 1030, 1031, 1032, 1033, 1034, 1035, 1085, 1086] (by decide +kernel) (by decide +kernel)
set_option maxRecDepth 20000 in
theorem gL_law_X11_letter : GoodIn wsL_law (wsV RL 13 RX11 yX11_letter wsX11_letter) := goodIn_app (goodIn_of _ (by decide +kernel)) ggL_law_X11_letter
set_option maxRecDepth 20000 in
theorem ggL_law_X12_letter : GoodIn wsL_law wsX12_letter := goodIn_r _ [158, 159, 125, 160, 161, 5, 162, 1036, 1037, 1038, 1039, 1040, 1041, 1042, 1043, 1044, 1045, 1046, 1047, 1048, 1049, 1050, 1051, 1052, 1053, 1054, 1055, 1056, 1057, 1058, 1059, 1060, 1061, 1062, 1063, 1064, 1065, 1066, 1067, 1068, 1069, 1070, 1071, 1072, 1073, 1074, 1075, 1076, 1077, 1078, 1079, 1080, 1081, 1082, 1083, 1084] (by decide +kernel) (by decide +kernel)
set_option maxRecDepth 20000 in
theorem gL_law_X12_letter : GoodIn wsL_law (wsV RL 17 RX12 yX12_letter wsX12_letter) := goodIn_app (goodIn_of _ (by decide +kernel)) ggL_law_X12_letter
set_option maxRecDepth 20000 in
theorem ggL_law_X11_blank : GoodIn wsL_law wsX11_blank := goodIn_r _ [166, 15, 149, 1027, 1028, 1029, 1030, 1031, 1032, 1033, 1034, 1035, 1085, 1086] (by decide +kernel) (by decide +kernel)
set_option maxRecDepth 20000 in
theorem gL_law_X11_blank : GoodIn wsL_law (wsV RL 18 RX11 yX11_blank wsX11_blank) := goodIn_app (goodIn_of _ (by decide +kernel)) ggL_law_X11_blank
set_option maxRecDepth 20000 in
theorem ggL_law_X12_blank : GoodIn wsL_law wsX12_blank := goodIn_r _ [170, 159, 1036, 1037, 1038, 1039, 1040, 1041, 1042, 1043, 1044, 1045, 1046, 1047, 1048, 1049, 1050, 1051, 1052, 1053, 1054, 1055, 1056, 1057, 1058, 1059, 1060, 1061, 1062, 1063, 1064, 1065, 1066, 1067, 1068, 1069, 1070, 1071, 1072, 1073, 1074, 1075, 1076, 1077, 1078, 1079, 1080, 1081, 1082, 1083, 1084] (by decide +kernel) (by decide +kernel)
set_option maxRecDepth 20000 in
theorem gL_law_X12_blank : GoodIn wsL_law (wsV RL 22 RX12 yX12_blank wsX12_blank) := goodIn_app (goodIn_of _ (by decide +kernel)) ggL_law_X12_blank
set_option maxRecDepth 20000 in
theorem ggL_law_X11_fault : GoodIn wsL_law wsX11_fault := goodIn_r _ [174, 15, 175, 176, 177, 14, 178, 154, 179, 180, 181, 182, 37, 183, 184, 185, 186, 187, 188, 189, 190, 191, 192, 193, 194, 195, 196, 197, 198, 199, 200, 201, 202, 203, 204, 205, 206, 207, 208, 209, 210, 211, 212, 213, 214, 215, 216, 217, 218, 219, 220, 221, 222, 223, 224, 225, 226, 227, 228, 229, 230, 231, 232, 233, 234, 235, 236, 237, 238, 239, 240, 241, 242, 243, 244, 245, 246, 247, 248, 249, 250, 251, 252, 253, 254, 255, 256, 257, 258, 259, 260, 261, 262, 263, 264, 265, 266, 267, 268, 269, 270, 271, 272, 273, 274, 275, 276, 277, 278, 279, 280, 281, 282, 283, 284, 285, 286, 287, 288, 289, 290, 291, 292, 293, 294, 295, 296, 297, 298, 299, 1027, 1028, 1029, 1030, 1031, 1032, 1033, 1034, 1035, 1085, 1086] (by decide +kernel) (by decide +kernel)
set_option maxRecDepth 20000 in
theorem gL_law_X11_fault : GoodIn wsL_law (wsV RL 23 RX11 yX11_fault wsX11_fault) := goodIn_app (goodIn_of _ (by decide +kernel)) ggL_law_X11_fault
set_option maxRecDepth 20000 in
theorem ggL_law_X12_fault : GoodIn wsL_law wsX12_fault := goodIn_r _ [303, 304, 305, 306, 5, 307, 308, 309, 310, 311, 312, 313, 314, 315, 316, 317, 318, 159, 125, 160, 161, 162, 319, 320, 321, 322, 323, 324, 325, 326, 327, 328, 329, 330, 331, 332, 333, 1036, 1037, 1038, 1039, 1040, 1041, 1042, 1043, 1044, 1045, 1046, 1047, 1048, 1049, 1050, 1051, 1052, 1053, 1054, 1055, 1056, 1057, 1058, 1059, 1060, 1061, 1062, 1063, 1064, 1065, 1066, 1067, 1068, 1069, 1070, 1071, 1072, 1073, 1074, 1075, 1076, 1077, 1078, 1079, 1080, 1081, 1082, 1083, 1084] (by decide +kernel) (by decide +kernel)
set_option maxRecDepth 20000 in
theorem gL_law_X12_fault : GoodIn wsL_law (wsV RL 26 RX12 yX12_fault wsX12_fault) := goodIn_app (goodIn_of _ (by decide +kernel)) ggL_law_X12_fault
set_option maxRecDepth 20000 in
theorem ggL_law_X11_ministry : GoodIn wsL_law wsX11_ministry := goodIn_r _ [337, 15, 19, 149, 338, 339, 340, 341, 342, 343, 14, 344, 154, 179, 180, 181, 182, 37, 345, 176, 177, 178, 183, 184, 185, 186, 187, 188, 189, 190, 191, 192, 193, 194, 195, 196, 197, 198, 199, 200, 201, 202, 203, 204, 205, 206, 207, 208, 209, 210, 211, 212, 213, 214, 215, 216, 217, 218, 219, 220, 221, 222, 223, 224, 225, 226, 227, 228, 229, 230, 231, 232, 233, 234, 235, 236, 237, 238, 239, 240, 241, 242, 243, 244, 245, 246, 247, 248, 249, 250, 251, 252, 253, 254, 255, 256, 257, 258, 259, 260, 261, 262, 263, 264, 265, 266, 267, 268, 269, 270, 271, 272, 273, 274, 275, 276, 277, 278, 279, 280, 281, 282, 283, 284, 285, 286, 287, 288, 289, 290, 291, 292, 293, 294, 295, 296, 297, 298, 299, 346, 347, 348, 18, 349, 350, 351, 352, 353, 354, 57, 58, 59, 60, 61, 62, 63, 64, 355, 356, 357, 358, 359, 1027, 1028, 1029, 1030, 1031, 1032, 1033, 1034, 1035, 1085, 1086, 1087, 1088, 1089, 1090, 1091, 1092, 1093, 1094, 1095, 1096, 1097, 1098, 1099, 1100, 1101, 1102, 1103, 1104] (by decide +kernel) (by decide +kernel)
set_option maxRecDepth 20000 in
theorem gL_law_X11_ministry : GoodIn wsL_law (wsV RL 27 RX11 yX11_ministry wsX11_ministry) := goodIn_app (goodIn_of _ (by decide +kernel)) ggL_law_X11_ministry
set_option maxRecDepth 20000 in
theorem ggL_law_X12_ministry : GoodIn wsL_law wsX12_ministry := goodIn_r _ [363, 308, 125, 364, 309, 365, 310, 366, 112, 113, 114, 115, 116, 117, 118, 119, 367, 368, 369, 159, 304, 305, 306, 5, 307, 311, 312, 313, 314, 315, 316, 317, 318, 160, 161, 162, 319, 320, 321, 322, 323, 324, 325, 326, 327, 328, 329, 330, 331, 332, 333, 1036, 1037, 1038, 1039, 1040, 1041, 1042, 1043, 1044, 1045, 1046, 1047, 1048, 1049, 1050, 1051, 1052, 1053, 1054, 1055, 1056, 1057, 1058, 1059, 1060, 1061, 1062, 1063, 1064, 1065, 1066, 1067, 1068, 1069, 1070, 1071, 1072, 1073, 1074, 1075, 1076, 1077, 1078, 1079, 1080, 1081, 1082, 1083, 1084] (by decide +kernel) (by decide +kernel)
set_option maxRecDepth 20000 in
theorem gL_law_X12_ministry : GoodIn wsL_law (wsV RL 30 RX12 yX12_ministry wsX12_ministry) := goodIn_app (goodIn_of _ (by decide +kernel)) ggL_law_X12_ministry
set_option maxRecDepth 20000 in
theorem ggL_law_X11_person : GoodIn wsL_law wsX11_person := goodIn_r _ [373, 19, 374, 375, 376, 18, 377, 354, 378, 379, 380, 2, 381, 382, 383, 384, 385, 386, 387, 388, 389, 390, 391, 392, 393, 394, 395, 396, 397, 398, 399, 400, 401, 402, 59, 61, 62, 403, 404, 405, 406, 56, 60, 407, 408, 409, 410, 411, 46, 412, 413, 414, 415, 43, 416, 417, 418, 419, 420, 55, 421, 422, 423, 424, 425, 49, 426, 427, 428, 429, 52, 430, 431, 432, 433, 434, 435, 436, 437, 438, 439, 440, 441, 442, 240, 241, 242, 1027, 1028, 1029, 1030, 1031, 1032, 1033, 1034, 1035, 1087, 1088, 1089, 1090, 1091, 1092, 1093, 1094, 1095, 1096, 1097, 1098, 1099, 1100, 1101, 1102, 1103, 1104] (by decide +kernel) (by decide +kernel)
set_option maxRecDepth 20000 in
theorem gL_law_X11_person : GoodIn wsL_law (wsV RL 31 RX11 yX11_person wsX11_person) := goodIn_app (goodIn_of _ (by decide +kernel)) ggL_law_X11_person
set_option maxRecDepth 20000 in
theorem ggL_law_X12_person : GoodIn wsL_law wsX12_person := goodIn_r _ [446, 447, 448, 449, 5, 450, 366, 160, 161, 162, 451, 452, 453, 454, 115, 116, 117, 118, 119, 455, 456, 457, 458, 369, 120, 121, 122, 123, 459, 460, 461, 462, 463, 464, 465, 466, 467, 468, 469, 470, 114, 471, 472, 473, 474, 475, 365, 476, 477, 478, 479, 480, 481, 482, 1036, 1037, 1038, 1039, 1040, 1041, 1042, 1043, 1044, 1045, 1046, 1047, 1048, 1049, 1050, 1051, 1052, 1053, 1054, 1055, 1056, 1057, 1058, 1059, 1060, 1061, 1062, 1063, 1064, 1065, 1066, 1067, 1068, 1069, 1070, 1071, 1072, 1073, 1074, 1075, 1076, 1077, 1078, 1079, 1080, 1081, 1082, 1083, 1084] (by decide +kernel) (by decide +kernel)
set_option maxRecDepth 20000 in
theorem gL_law_X12_person : GoodIn wsL_law (wsV RL 35 RX12 yX12_person wsX12_person) := goodIn_app (goodIn_of _ (by decide +kernel)) ggL_law_X12_person
set_option maxRecDepth 20000 in
theorem ggL_law_X11_as : GoodIn wsL_law wsX11_as := goodIn_r _ [486, 19, 374, 375, 376, 18, 377, 354, 487, 404, 405, 406, 56, 60, 488, 489, 2, 490, 491, 492, 493, 494, 1027, 1028, 1029, 1030, 1031, 1032, 1033, 1034, 1035, 1087, 1088, 1089, 1090, 1091, 1092, 1093, 1094, 1095, 1096, 1097, 1098, 1099, 1100, 1101, 1102, 1103, 1104] (by decide +kernel) (by decide +kernel)
set_option maxRecDepth 20000 in
theorem gL_law_X11_as : GoodIn wsL_law (wsV RL 36 RX11 yX11_as wsX11_as) := goodIn_app (goodIn_of _ (by decide +kernel)) ggL_law_X11_as
set_option maxRecDepth 20000 in
theorem ggL_law_X12_as : GoodIn wsL_law wsX12_as := goodIn_r _ [498, 115, 447, 448, 449, 5, 450, 366, 160, 161, 162, 1036, 1037, 1038, 1039, 1040, 1041, 1042, 1043, 1044, 1045, 1046, 1047, 1048, 1049, 1050, 1051, 1052, 1053, 1054, 1055, 1056, 1057, 1058, 1059, 1060, 1061, 1062, 1063, 1064, 1065, 1066, 1067, 1068, 1069, 1070, 1071, 1072, 1073, 1074, 1075, 1076, 1077, 1078, 1079, 1080, 1081, 1082, 1083, 1084] (by decide +kernel) (by decide +kernel)
set_option maxRecDepth 20000 in
theorem gL_law_X12_as : GoodIn wsL_law (wsV RL 39 RX12 yX12_as wsX12_as) := goodIn_app (goodIn_of _ (by decide +kernel)) ggL_law_X12_as
set_option maxRecDepth 20000 in
theorem ggL_law_X11_passage : GoodIn wsL_law wsX11_passage := goodIn_r _ [502, 19, 503, 504, 505, 18, 506, 352, 507, 508, 509, 2, 510, 511, 512, 513, 1027, 1028, 1029, 1030, 1031, 1032, 1033, 1034, 1035, 1087, 1088, 1089, 1090, 1091, 1092, 1093, 1094, 1095, 1096, 1097, 1098, 1099, 1100, 1101, 1102, 1103, 1104] (by decide +kernel) (by decide +kernel)
set_option maxRecDepth 20000 in
theorem gL_law_X11_passage : GoodIn wsL_law (wsV RL 40 RX11 yX11_passage wsX11_passage) := goodIn_app (goodIn_of _ (by decide +kernel)) ggL_law_X11_passage
set_option maxRecDepth 20000 in
theorem ggL_law_X12_passage : GoodIn wsL_law wsX12_passage := goodIn_r _ [517, 518, 519, 520, 5, 521, 365, 160, 161, 162, 522, 523, 524, 525, 112, 113, 114, 1036, 1037, 1038, 1039, 1040, 1041, 1042, 1043, 1044, 1045, 1046, 1047, 1048, 1049, 1050, 1051, 1052, 1053, 1054, 1055, 1056, 1057, 1058, 1059, 1060, 1061, 1062, 1063, 1064, 1065, 1066, 1067, 1068, 1069, 1070, 1071, 1072, 1073, 1074, 1075, 1076, 1077, 1078, 1079, 1080, 1081, 1082, 1083, 1084] (by decide +kernel) (by decide +kernel)
set_option maxRecDepth 20000 in
theorem gL_law_X12_passage : GoodIn wsL_law (wsV RL 43 RX12 yX12_passage wsX12_passage) := goodIn_app (goodIn_of _ (by decide +kernel)) ggL_law_X12_passage
set_option maxRecDepth 20000 in
theorem ggL_law_X11_steps : GoodIn wsL_law wsX11_steps := goodIn_r _ [529, 19, 530, 531, 532, 18, 533, 534, 375, 376, 377, 354, 535, 504, 505, 506, 352, 536, 537, 538, 539, 62, 540, 400, 401, 402, 59, 61, 403, 404, 405, 406, 56, 60, 407, 408, 409, 410, 411, 46, 412, 413, 414, 415, 43, 416, 417, 418, 419, 420, 55, 421, 422, 423, 424, 425, 49, 426, 427, 428, 429, 52, 430, 431, 432, 1027, 1028, 1029, 1030, 1031, 1032, 1033, 1034, 1035, 1087, 1088, 1089, 1090, 1091, 1092, 1093, 1094, 1095, 1096, 1097, 1098, 1099, 1100, 1101, 1102, 1103, 1104] (by decide +kernel) (by decide +kernel)
set_option maxRecDepth 20000 in
theorem gL_law_X11_steps : GoodIn wsL_law (wsV RL 44 RX11 yX11_steps wsX11_steps) := goodIn_app (goodIn_of _ (by decide +kernel)) ggL_law_X11_steps
set_option maxRecDepth 20000 in
theorem ggL_law_X12_steps : GoodIn wsL_law wsX12_steps := goodIn_r _ [544, 447, 448, 449, 5, 450, 366, 160, 161, 162, 518, 519, 520, 521, 365, 545, 546, 547, 548, 463, 464, 465, 466, 467, 468, 469, 470, 114, 116, 117, 115, 1036, 1037, 1038, 1039, 1040, 1041, 1042, 1043, 1044, 1045, 1046, 1047, 1048, 1049, 1050, 1051, 1052, 1053, 1054, 1055, 1056, 1057, 1058, 1059, 1060, 1061, 1062, 1063, 1064, 1065, 1066, 1067, 1068, 1069, 1070, 1071, 1072, 1073, 1074, 1075, 1076, 1077, 1078, 1079, 1080, 1081, 1082, 1083, 1084] (by decide +kernel) (by decide +kernel)
set_option maxRecDepth 20000 in
theorem gL_law_X12_steps : GoodIn wsL_law (wsV RL 48 RX12 yX12_steps wsX12_steps) := goodIn_app (goodIn_of _ (by decide +kernel)) ggL_law_X12_steps
set_option maxRecDepth 20000 in
theorem ggL_law_X11_go : GoodIn wsL_law wsX11_go := goodIn_r _ [552, 19, 386, 530, 531, 532, 18, 533, 534, 375, 376, 377, 354, 535, 504, 505, 506, 352, 553, 554, 555, 556, 63, 557, 558, 559, 560, 57, 58, 561, 562, 563, 564, 64, 355, 565, 537, 538, 539, 62, 540, 400, 401, 402, 59, 61, 403, 404, 405, 406, 56, 60, 407, 408, 409, 410, 411, 46, 412, 413, 414, 415, 43, 416, 417, 418, 419, 420, 55, 421, 422, 423, 424, 425, 49, 426, 427, 428, 429, 52, 430, 431, 432, 566, 567, 568, 569, 1027, 1028, 1029, 1030, 1031, 1032, 1033, 1034, 1035, 1087, 1088, 1089, 1090, 1091, 1092, 1093, 1094, 1095, 1096, 1097, 1098, 1099, 1100, 1101, 1102, 1103, 1104] (by decide +kernel) (by decide +kernel)
set_option maxRecDepth 20000 in
theorem gL_law_X11_go : GoodIn wsL_law (wsV RL 49 RX11 yX11_go wsX11_go) := goodIn_app (goodIn_of _ (by decide +kernel)) ggL_law_X11_go
set_option maxRecDepth 20000 in
theorem ggL_law_X12_go : GoodIn wsL_law wsX12_go := goodIn_r _ [573, 118, 119, 367, 447, 448, 449, 5, 450, 366, 160, 161, 162, 518, 519, 520, 521, 365, 545, 546, 547, 548, 574, 575, 576, 577, 112, 113, 578, 579, 580, 581, 463, 464, 465, 466, 467, 468, 469, 470, 114, 116, 117, 115, 582, 583, 584, 585, 1036, 1037, 1038, 1039, 1040, 1041, 1042, 1043, 1044, 1045, 1046, 1047, 1048, 1049, 1050, 1051, 1052, 1053, 1054, 1055, 1056, 1057, 1058, 1059, 1060, 1061, 1062, 1063, 1064, 1065, 1066, 1067, 1068, 1069, 1070, 1071, 1072, 1073, 1074, 1075, 1076, 1077, 1078, 1079, 1080, 1081, 1082, 1083, 1084] (by decide +kernel) (by decide +kernel)
set_option maxRecDepth 20000 in
theorem gL_law_X12_go : GoodIn wsL_law (wsV RL 52 RX12 yX12_go wsX12_go) := goodIn_app (goodIn_of _ (by decide +kernel)) ggL_law_X12_go
set_option maxRecDepth 20000 in
theorem ggL_law_X11_sin : GoodIn wsL_law wsX11_sin := goodIn_r _ [589, 19, 383, 374, 375, 376, 18, 377, 354, 1027, 1028, 1029, 1030, 1031, 1032, 1033, 1034, 1035, 1087, 1088, 1089, 1090, 1091, 1092, 1093, 1094, 1095, 1096, 1097, 1098, 1099, 1100, 1101, 1102, 1103, 1104] (by decide +kernel) (by decide +kernel)
set_option maxRecDepth 20000 in
theorem gL_law_X11_sin : GoodIn wsL_law (wsV RL 53 RX11 yX11_sin wsX11_sin) := goodIn_app (goodIn_of _ (by decide +kernel)) ggL_law_X11_sin
set_option maxRecDepth 20000 in
theorem ggL_law_X12_sin : GoodIn wsL_law wsX12_sin := goodIn_r _ [593, 116, 447, 448, 449, 5, 450, 366, 160, 161, 162, 1036, 1037, 1038, 1039, 1040, 1041, 1042, 1043, 1044, 1045, 1046, 1047, 1048, 1049, 1050, 1051, 1052, 1053, 1054, 1055, 1056, 1057, 1058, 1059, 1060, 1061, 1062, 1063, 1064, 1065, 1066, 1067, 1068, 1069, 1070, 1071, 1072, 1073, 1074, 1075, 1076, 1077, 1078, 1079, 1080, 1081, 1082, 1083, 1084] (by decide +kernel) (by decide +kernel)
set_option maxRecDepth 20000 in
theorem gL_law_X12_sin : GoodIn wsL_law (wsV RL 56 RX12 yX12_sin wsX12_sin) := goodIn_app (goodIn_of _ (by decide +kernel)) ggL_law_X12_sin
set_option maxRecDepth 20000 in
theorem ggL_law_X11_lie : GoodIn wsL_law wsX11_lie := goodIn_r _ [597, 19, 384, 374, 375, 376, 18, 377, 354, 1027, 1028, 1029, 1030, 1031, 1032, 1033, 1034, 1035, 1087, 1088, 1089, 1090, 1091, 1092, 1093, 1094, 1095, 1096, 1097, 1098, 1099, 1100, 1101, 1102, 1103, 1104] (by decide +kernel) (by decide +kernel)
set_option maxRecDepth 20000 in
theorem gL_law_X11_lie : GoodIn wsL_law (wsV RL 57 RX11 yX11_lie wsX11_lie) := goodIn_app (goodIn_of _ (by decide +kernel)) ggL_law_X11_lie
set_option maxRecDepth 20000 in
theorem ggL_law_X12_lie : GoodIn wsL_law wsX12_lie := goodIn_r _ [601, 117, 447, 448, 449, 5, 450, 366, 160, 161, 162, 1036, 1037, 1038, 1039, 1040, 1041, 1042, 1043, 1044, 1045, 1046, 1047, 1048, 1049, 1050, 1051, 1052, 1053, 1054, 1055, 1056, 1057, 1058, 1059, 1060, 1061, 1062, 1063, 1064, 1065, 1066, 1067, 1068, 1069, 1070, 1071, 1072, 1073, 1074, 1075, 1076, 1077, 1078, 1079, 1080, 1081, 1082, 1083, 1084] (by decide +kernel) (by decide +kernel)
set_option maxRecDepth 20000 in
theorem gL_law_X12_lie : GoodIn wsL_law (wsV RL 60 RX12 yX12_lie wsX12_lie) := goodIn_app (goodIn_of _ (by decide +kernel)) ggL_law_X12_lie
set_option maxRecDepth 20000 in
theorem ggL_law_X11_confess : GoodIn wsL_law wsX11_confess := goodIn_r _ [605, 19, 383, 374, 375, 376, 18, 377, 354, 1027, 1028, 1029, 1030, 1031, 1032, 1033, 1034, 1035, 1087, 1088, 1089, 1090, 1091, 1092, 1093, 1094, 1095, 1096, 1097, 1098, 1099, 1100, 1101, 1102, 1103, 1104] (by decide +kernel) (by decide +kernel)
set_option maxRecDepth 20000 in
theorem gL_law_X11_confess : GoodIn wsL_law (wsV RL 61 RX11 yX11_confess wsX11_confess) := goodIn_app (goodIn_of _ (by decide +kernel)) ggL_law_X11_confess
set_option maxRecDepth 20000 in
theorem ggL_law_X12_confess : GoodIn wsL_law wsX12_confess := goodIn_r _ [609, 116, 447, 448, 449, 5, 450, 366, 160, 161, 162, 1036, 1037, 1038, 1039, 1040, 1041, 1042, 1043, 1044, 1045, 1046, 1047, 1048, 1049, 1050, 1051, 1052, 1053, 1054, 1055, 1056, 1057, 1058, 1059, 1060, 1061, 1062, 1063, 1064, 1065, 1066, 1067, 1068, 1069, 1070, 1071, 1072, 1073, 1074, 1075, 1076, 1077, 1078, 1079, 1080, 1081, 1082, 1083, 1084] (by decide +kernel) (by decide +kernel)
set_option maxRecDepth 20000 in
theorem gL_law_X12_confess : GoodIn wsL_law (wsV RL 64 RX12 yX12_confess wsX12_confess) := goodIn_app (goodIn_of _ (by decide +kernel)) ggL_law_X12_confess
set_option maxRecDepth 20000 in
theorem ggL_law_X11_carpet : GoodIn wsL_law wsX11_carpet := goodIn_r _ [613, 19, 513, 503, 504, 505, 18, 506, 352, 1027, 1028, 1029, 1030, 1031, 1032, 1033, 1034, 1035, 1087, 1088, 1089, 1090, 1091, 1092, 1093, 1094, 1095, 1096, 1097, 1098, 1099, 1100, 1101, 1102, 1103, 1104] (by decide +kernel) (by decide +kernel)
set_option maxRecDepth 20000 in
theorem gL_law_X11_carpet : GoodIn wsL_law (wsV RL 65 RX11 yX11_carpet wsX11_carpet) := goodIn_app (goodIn_of _ (by decide +kernel)) ggL_law_X11_carpet
set_option maxRecDepth 20000 in
theorem ggL_law_X12_carpet : GoodIn wsL_law wsX12_carpet := goodIn_r _ [617, 114, 518, 519, 520, 5, 521, 365, 160, 161, 162, 1036, 1037, 1038, 1039, 1040, 1041, 1042, 1043, 1044, 1045, 1046, 1047, 1048, 1049, 1050, 1051, 1052, 1053, 1054, 1055, 1056, 1057, 1058, 1059, 1060, 1061, 1062, 1063, 1064, 1065, 1066, 1067, 1068, 1069, 1070, 1071, 1072, 1073, 1074, 1075, 1076, 1077, 1078, 1079, 1080, 1081, 1082, 1083, 1084] (by decide +kernel) (by decide +kernel)
set_option maxRecDepth 20000 in
theorem gL_law_X12_carpet : GoodIn wsL_law (wsV RL 68 RX12 yX12_carpet wsX12_carpet) := goodIn_app (goodIn_of _ (by decide +kernel)) ggL_law_X12_carpet
set_option maxRecDepth 20000 in
theorem ggL_law_X11_far : GoodIn wsL_law wsX11_far := goodIn_r _ [621, 19, 24, 374, 375, 376, 18, 377, 354, 622, 623, 624, 625, 350, 626, 627, 628, 23, 629, 630, 83, 84, 89, 631, 632, 633, 634, 635, 636, 637, 59, 61, 62, 403, 404, 405, 406, 56, 60, 407, 408, 409, 410, 411, 46, 412, 413, 414, 415, 43, 416, 417, 418, 419, 420, 55, 421, 422, 423, 424, 425, 49, 426, 427, 428, 429, 52, 430, 431, 432, 638, 639, 640, 641, 642, 643, 644, 645, 646, 244, 241, 245, 647, 648, 649, 650, 651, 652, 653, 654, 655, 656, 657, 658, 659, 558, 559, 560, 57, 58, 660, 567, 568, 569, 1027, 1028, 1029, 1030, 1031, 1032, 1033, 1034, 1035, 1087, 1088, 1089, 1090, 1091, 1092, 1093, 1094, 1095, 1096, 1097, 1098, 1099, 1100, 1101, 1102, 1103, 1104, 1105, 1106, 1107, 1108, 1109, 1110] (by decide +kernel) (by decide +kernel)
set_option maxRecDepth 20000 in
theorem gL_law_X11_far : GoodIn wsL_law (wsV RL 69 RX11 yX11_far wsX11_far) := goodIn_app (goodIn_of _ (by decide +kernel)) ggL_law_X11_far
set_option maxRecDepth 20000 in
theorem ggL_law_X12_far : GoodIn wsL_law wsX12_far := goodIn_r _ [664, 447, 448, 449, 5, 450, 366, 160, 161, 162, 665, 666, 667, 668, 364, 669, 670, 671, 672, 673, 674, 675, 676, 126, 475, 677, 678, 679, 680, 365, 112, 113, 467, 468, 469, 470, 114, 116, 117, 115, 681, 682, 683, 684, 574, 575, 576, 577, 582, 583, 584, 585, 1036, 1037, 1038, 1039, 1040, 1041, 1042, 1043, 1044, 1045, 1046, 1047, 1048, 1049, 1050, 1051, 1052, 1053, 1054, 1055, 1056, 1057, 1058, 1059, 1060, 1061, 1062, 1063, 1064, 1065, 1066, 1067, 1068, 1069, 1070, 1071, 1072, 1073, 1074, 1075, 1076, 1077, 1078, 1079, 1080, 1081, 1082, 1083, 1084] (by decide +kernel) (by decide +kernel)
set_option maxRecDepth 20000 in
theorem gL_law_X12_far : GoodIn wsL_law (wsV RL 73 RX12 yX12_far wsX12_far) := goodIn_app (goodIn_of _ (by decide +kernel)) ggL_law_X12_far
set_option maxRecDepth 20000 in
theorem ggL_law_X11_send : GoodIn wsL_law wsX11_send := goodIn_r _ [688, 19, 689, 24, 690, 691, 692, 18, 693, 350, 694, 695, 696, 23, 697, 698, 699, 84, 86, 700, 701, 702, 703, 89, 90, 704, 627, 628, 629, 630, 83, 631, 632, 633, 634, 635, 636, 637, 59, 61, 62, 403, 404, 405, 406, 56, 60, 407, 408, 409, 410, 411, 46, 412, 413, 414, 415, 43, 416, 417, 418, 419, 420, 55, 421, 422, 423, 424, 425, 49, 426, 427, 428, 429, 52, 430, 431, 432, 638, 639, 640, 641, 642, 643, 644, 645, 646, 244, 241, 245, 705, 706, 707, 87, 88, 708, 709, 710, 711, 712, 713, 714, 715, 716, 623, 624, 625, 1027, 1028, 1029, 1030, 1031, 1032, 1033, 1034, 1035, 1087, 1088, 1089, 1090, 1091, 1092, 1093, 1094, 1095, 1096, 1097, 1098, 1099, 1100, 1101, 1102, 1103, 1104, 1105, 1106, 1107, 1108, 1109, 1110] (by decide +kernel) (by decide +kernel)
set_option maxRecDepth 20000 in
theorem gL_law_X11_send : GoodIn wsL_law (wsV RL 74 RX11 yX11_send wsX11_send) := goodIn_app (goodIn_of _ (by decide +kernel)) ggL_law_X11_send
set_option maxRecDepth 20000 in
theorem ggL_law_X12_send : GoodIn wsL_law wsX12_send := goodIn_r _ [720, 366, 721, 160, 161, 5, 162, 722, 723, 724, 725, 364, 129, 118, 127, 128, 475, 673, 674, 675, 676, 126, 677, 678, 679, 680, 365, 112, 113, 467, 468, 469, 470, 114, 116, 117, 115, 726, 727, 728, 729, 480, 481, 482, 730, 731, 732, 733, 1036, 1037, 1038, 1039, 1040, 1041, 1042, 1043, 1044, 1045, 1046, 1047, 1048, 1049, 1050, 1051, 1052, 1053, 1054, 1055, 1056, 1057, 1058, 1059, 1060, 1061, 1062, 1063, 1064, 1065, 1066, 1067, 1068, 1069, 1070, 1071, 1072, 1073, 1074, 1075, 1076, 1077, 1078, 1079, 1080, 1081, 1082, 1083, 1084] (by decide +kernel) (by decide +kernel)
set_option maxRecDepth 20000 in
theorem gL_law_X12_send : GoodIn wsL_law (wsV RL 77 RX12 yX12_send wsX12_send) := goodIn_app (goodIn_of _ (by decide +kernel)) ggL_law_X12_send
set_option maxRecDepth 20000 in
theorem ggL_law_X11_pairs : GoodIn wsL_law wsX11_pairs := goodIn_r _ [737, 19, 28, 738, 503, 504, 505, 18, 506, 352, 739, 740, 741, 27, 742, 743, 744, 95, 745, 746, 747, 748, 635, 636, 637, 59, 61, 62, 403, 404, 405, 406, 56, 60, 407, 408, 409, 410, 411, 46, 412, 413, 414, 415, 43, 416, 417, 418, 419, 420, 55, 421, 422, 423, 424, 425, 49, 426, 427, 428, 429, 52, 430, 431, 432, 749, 537, 538, 539, 540, 400, 401, 402, 750, 751, 752, 96, 753, 240, 241, 242, 754, 755, 756, 757, 758, 759, 760, 761, 97, 762, 701, 702, 703, 763, 764, 765, 766, 767, 375, 376, 377, 354, 1027, 1028, 1029, 1030, 1031, 1032, 1033, 1034, 1035, 1111, 1112, 1113, 1114, 1115, 1116, 1087, 1088, 1089, 1090, 1091, 1092, 1093, 1094, 1095, 1096, 1097, 1098, 1099, 1100, 1101, 1102, 1103, 1104] (by decide +kernel) (by decide +kernel)
set_option maxRecDepth 20000 in
theorem gL_law_X11_pairs : GoodIn wsL_law (wsV RL 78 RX11 yX11_pairs wsX11_pairs) := goodIn_app (goodIn_of _ (by decide +kernel)) ggL_law_X11_pairs
set_option maxRecDepth 20000 in
theorem ggL_law_X12_pairs : GoodIn wsL_law wsX12_pairs := goodIn_r _ [771, 518, 519, 520, 5, 521, 365, 160, 161, 162, 772, 773, 774, 775, 130, 131, 475, 366, 776, 777, 778, 779, 780, 781, 782, 783, 463, 464, 465, 466, 467, 468, 469, 470, 114, 116, 117, 115, 784, 785, 786, 787, 788, 789, 790, 791, 1036, 1037, 1038, 1039, 1040, 1041, 1042, 1043, 1044, 1045, 1046, 1047, 1048, 1049, 1050, 1051, 1052, 1053, 1054, 1055, 1056, 1057, 1058, 1059, 1060, 1061, 1062, 1063, 1064, 1065, 1066, 1067, 1068, 1069, 1070, 1071, 1072, 1073, 1074, 1075, 1076, 1077, 1078, 1079, 1080, 1081, 1082, 1083, 1084] (by decide +kernel) (by decide +kernel)
set_option maxRecDepth 20000 in
theorem gL_law_X12_pairs : GoodIn wsL_law (wsV RL 81 RX12 yX12_pairs wsX12_pairs) := goodIn_app (goodIn_of _ (by decide +kernel)) ggL_law_X12_pairs
set_option maxRecDepth 20000 in
theorem ggL_law_X11_meet : GoodIn wsL_law wsX11_meet := goodIn_r _ [795, 19, 796, 797, 32, 798, 799, 374, 375, 376, 18, 377, 354, 800, 801, 802, 31, 803, 804, 102, 103, 805, 806, 107, 807, 808, 809, 810, 811, 104, 812, 701, 702, 703, 813, 814, 640, 815, 816, 817, 818, 819, 820, 821, 822, 823, 824, 825, 352, 557, 558, 559, 560, 57, 58, 826, 827, 567, 568, 569, 828, 829, 830, 1027, 1028, 1029, 1030, 1031, 1032, 1033, 1034, 1035, 1117, 1118, 1119, 1120, 1121, 1122, 1123, 1124, 1087, 1088, 1089, 1090, 1091, 1092, 1093, 1094, 1095, 1096, 1097, 1098, 1099, 1100, 1101, 1102, 1103, 1104] (by decide +kernel) (by decide +kernel)
set_option maxRecDepth 20000 in
theorem gL_law_X11_meet : GoodIn wsL_law (wsV RL 82 RX11 yX11_meet wsX11_meet) := goodIn_app (goodIn_of _ (by decide +kernel)) ggL_law_X11_meet
set_option maxRecDepth 20000 in
theorem ggL_law_X12_meet : GoodIn wsL_law wsX12_meet := goodIn_r _ [834, 835, 836, 447, 448, 449, 5, 450, 366, 160, 161, 162, 837, 838, 839, 840, 132, 118, 841, 364, 842, 843, 844, 845, 133, 846, 365, 847, 848, 849, 850, 574, 575, 576, 577, 112, 113, 582, 583, 584, 585, 851, 852, 853, 1036, 1037, 1038, 1039, 1040, 1041, 1042, 1043, 1044, 1045, 1046, 1047, 1048, 1049, 1050, 1051, 1052, 1053, 1054, 1055, 1056, 1057, 1058, 1059, 1060, 1061, 1062, 1063, 1064, 1065, 1066, 1067, 1068, 1069, 1070, 1071, 1072, 1073, 1074, 1075, 1076, 1077, 1078, 1079, 1080, 1081, 1082, 1083, 1084] (by decide +kernel) (by decide +kernel)
set_option maxRecDepth 20000 in
theorem gL_law_X12_meet : GoodIn wsL_law (wsV RL 86 RX12 yX12_meet wsX12_meet) := goodIn_app (goodIn_of _ (by decide +kernel)) ggL_law_X12_meet
set_option maxRecDepth 20000 in
theorem ggL_law_X11_see : GoodIn wsL_law wsX11_see := goodIn_r _ [857, 19, 858, 530, 531, 532, 18, 533, 534, 375, 376, 377, 354, 535, 504, 505, 506, 352, 859, 860, 861, 862, 356, 65, 66, 67, 68, 1027, 1028, 1029, 1030, 1031, 1032, 1033, 1034, 1035, 1087, 1088, 1089, 1090, 1091, 1092, 1093, 1094, 1095, 1096, 1097, 1098, 1099, 1100, 1101, 1102, 1103, 1104] (by decide +kernel) (by decide +kernel)
set_option maxRecDepth 20000 in
theorem gL_law_X11_see : GoodIn wsL_law (wsV RL 87 RX11 yX11_see wsX11_see) := goodIn_app (goodIn_of _ (by decide +kernel)) ggL_law_X11_see
set_option maxRecDepth 20000 in
theorem ggL_law_X12_see : GoodIn wsL_law wsX12_see := goodIn_r _ [866, 369, 120, 121, 122, 123, 447, 448, 449, 5, 450, 366, 160, 161, 162, 518, 519, 520, 521, 365, 545, 546, 547, 548, 1036, 1037, 1038, 1039, 1040, 1041, 1042, 1043, 1044, 1045, 1046, 1047, 1048, 1049, 1050, 1051, 1052, 1053, 1054, 1055, 1056, 1057, 1058, 1059, 1060, 1061, 1062, 1063, 1064, 1065, 1066, 1067, 1068, 1069, 1070, 1071, 1072, 1073, 1074, 1075, 1076, 1077, 1078, 1079, 1080, 1081, 1082, 1083, 1084] (by decide +kernel) (by decide +kernel)
set_option maxRecDepth 20000 in
theorem gL_law_X12_see : GoodIn wsL_law (wsV RL 90 RX12 yX12_see wsX12_see) := goodIn_app (goodIn_of _ (by decide +kernel)) ggL_law_X12_see
set_option maxRecDepth 20000 in
theorem ggL_law_X11_forget : GoodIn wsL_law wsX11_forget := goodIn_r _ [870, 19, 858, 1027, 1028, 1029, 1030, 1031, 1032, 1033, 1034, 1035, 1087, 1088, 1089, 1090, 1091, 1092, 1093, 1094, 1095, 1096, 1097, 1098, 1099, 1100, 1101, 1102, 1103, 1104] (by decide +kernel) (by decide +kernel)
set_option maxRecDepth 20000 in
theorem gL_law_X11_forget : GoodIn wsL_law (wsV RL 91 RX11 yX11_forget wsX11_forget) := goodIn_app (goodIn_of _ (by decide +kernel)) ggL_law_X11_forget
set_option maxRecDepth 20000 in
theorem ggL_law_X12_forget : GoodIn wsL_law wsX12_forget := goodIn_r _ [874, 369, 1036, 1037, 1038, 1039, 1040, 1041, 1042, 1043, 1044, 1045, 1046, 1047, 1048, 1049, 1050, 1051, 1052, 1053, 1054, 1055, 1056, 1057, 1058, 1059, 1060, 1061, 1062, 1063, 1064, 1065, 1066, 1067, 1068, 1069, 1070, 1071, 1072, 1073, 1074, 1075, 1076, 1077, 1078, 1079, 1080, 1081, 1082, 1083, 1084] (by decide +kernel) (by decide +kernel)
set_option maxRecDepth 20000 in
theorem gL_law_X12_forget : GoodIn wsL_law (wsV RL 94 RX12 yX12_forget wsX12_forget) := goodIn_app (goodIn_of _ (by decide +kernel)) ggL_law_X12_forget
set_option maxRecDepth 20000 in
theorem ggL_law_X11_days : GoodIn wsL_law wsX11_days := goodIn_r _ [878, 19, 32, 879, 880, 690, 691, 692, 18, 693, 350, 881, 882, 883, 31, 884, 106, 885, 886, 887, 888, 889, 890, 352, 354, 355, 356, 57, 891, 701, 702, 703, 58, 59, 60, 61, 62, 63, 64, 65, 66, 67, 68, 892, 893, 894, 895, 896, 804, 897, 898, 899, 900, 901, 902, 903, 904, 905, 822, 823, 824, 825, 557, 558, 559, 560, 906, 907, 908, 909, 910, 562, 563, 564, 565, 537, 538, 539, 540, 400, 401, 402, 403, 404, 405, 406, 56, 407, 408, 409, 410, 411, 46, 412, 413, 414, 415, 43, 416, 417, 418, 419, 420, 55, 421, 422, 423, 424, 425, 49, 426, 427, 428, 429, 52, 430, 431, 432, 566, 567, 568, 569, 911, 912, 913, 914, 915, 916, 917, 918, 1027, 1028, 1029, 1030, 1031, 1032, 1033, 1034, 1035, 1117, 1118, 1119, 1120, 1121, 1122, 1123, 1124, 1087, 1088, 1089, 1090, 1091, 1092, 1093, 1094, 1095, 1096, 1097, 1098, 1099, 1100, 1101, 1102, 1103, 1104] (by decide +kernel) (by decide +kernel)
set_option maxRecDepth 20000 in
theorem gL_law_X11_days : GoodIn wsL_law (wsV RL 95 RX11 yX11_days wsX11_days) := goodIn_app (goodIn_of _ (by decide +kernel)) ggL_law_X11_days
set_option maxRecDepth 20000 in
theorem ggL_law_X12_days : GoodIn wsL_law wsX12_days := goodIn_r _ [922, 366, 160, 161, 5, 162, 923, 924, 925, 926, 134, 117, 135, 118, 927, 928, 929, 930, 931, 932, 933, 934, 935, 847, 848, 849, 850, 365, 574, 575, 576, 577, 112, 113, 936, 937, 938, 939, 467, 468, 469, 470, 114, 116, 115, 582, 583, 584, 585, 940, 941, 942, 943, 1036, 1037, 1038, 1039, 1040, 1041, 1042, 1043, 1044, 1045, 1046, 1047, 1048, 1049, 1050, 1051, 1052, 1053, 1054, 1055, 1056, 1057, 1058, 1059, 1060, 1061, 1062, 1063, 1064, 1065, 1066, 1067, 1068, 1069, 1070, 1071, 1072, 1073, 1074, 1075, 1076, 1077, 1078, 1079, 1080, 1081, 1082, 1083, 1084] (by decide +kernel) (by decide +kernel)
set_option maxRecDepth 20000 in
theorem gL_law_X12_days : GoodIn wsL_law (wsV RL 98 RX12 yX12_days wsX12_days) := goodIn_app (goodIn_of _ (by decide +kernel)) ggL_law_X12_days
set_option maxRecDepth 20000 in
theorem ggL_law_X11_image : GoodIn wsL_law wsX11_image := goodIn_r _ [947, 19, 20, 338, 386, 690, 691, 692, 18, 693, 350, 948, 888, 889, 890, 352, 354, 355, 356, 57, 891, 701, 702, 703, 58, 59, 60, 61, 62, 63, 64, 65, 66, 67, 68, 949, 950, 951, 952, 1027, 1028, 1029, 1030, 1031, 1032, 1033, 1034, 1035, 1087, 1088, 1089, 1090, 1091, 1092, 1093, 1094, 1095, 1096, 1097, 1098, 1099, 1100, 1101, 1102, 1103, 1104] (by decide +kernel) (by decide +kernel)
set_option maxRecDepth 20000 in
theorem gL_law_X11_image : GoodIn wsL_law (wsV RL 99 RX11 yX11_image wsX11_image) := goodIn_app (goodIn_of _ (by decide +kernel)) ggL_law_X11_image
set_option maxRecDepth 20000 in
theorem ggL_law_X12_image : GoodIn wsL_law wsX12_image := goodIn_r _ [956, 366, 957, 368, 958, 367, 959, 369, 960, 136, 114, 137, 116, 138, 117, 139, 118, 140, 119, 141, 120, 142, 121, 143, 122, 144, 123, 961, 962, 963, 5, 964, 1036, 1037, 1038, 1039, 1040, 1041, 1042, 1043, 1044, 1045, 1046, 1047, 1048, 1049, 1050, 1051, 1052, 1053, 1054, 1055, 1056, 1057, 1058, 1059, 1060, 1061, 1062, 1063, 1064, 1065, 1066, 1067, 1068, 1069, 1070, 1071, 1072, 1073, 1074, 1075, 1076, 1077, 1078, 1079, 1080, 1081, 1082, 1083, 1084] (by decide +kernel) (by decide +kernel)
set_option maxRecDepth 20000 in
theorem gL_law_X12_image : GoodIn wsL_law (wsV RL 102 RX12 yX12_image wsX12_image) := goodIn_app (goodIn_of _ (by decide +kernel)) ggL_law_X12_image
set_option maxRecDepth 20000 in
theorem ggL_law_X11_restore : GoodIn wsL_law wsX11_restore := goodIn_r _ [968, 338, 19, 20, 386, 948, 888, 889, 18, 890, 350, 352, 354, 355, 356, 57, 891, 701, 702, 703, 58, 59, 60, 61, 62, 63, 64, 65, 66, 67, 68, 949, 950, 951, 952, 1027, 1028, 1029, 1030, 1031, 1032, 1033, 1034, 1035, 1087, 1088, 1089, 1090, 1091, 1092, 1093, 1094, 1095, 1096, 1097, 1098, 1099, 1100, 1101, 1102, 1103, 1104] (by decide +kernel) (by decide +kernel)
set_option maxRecDepth 20000 in
theorem gL_law_X11_restore : GoodIn wsL_law (wsV RL 103 RX11 yX11_restore wsX11_restore) := goodIn_app (goodIn_of _ (by decide +kernel)) ggL_law_X11_restore
set_option maxRecDepth 20000 in
theorem ggL_law_X12_restore : GoodIn wsL_law wsX12_restore := goodIn_r _ [972, 957, 958, 368, 959, 367, 960, 369, 114, 136, 116, 137, 117, 138, 118, 139, 119, 140, 120, 141, 121, 142, 122, 143, 123, 144, 961, 962, 963, 5, 964, 366, 1036, 1037, 1038, 1039, 1040, 1041, 1042, 1043, 1044, 1045, 1046, 1047, 1048, 1049, 1050, 1051, 1052, 1053, 1054, 1055, 1056, 1057, 1058, 1059, 1060, 1061, 1062, 1063, 1064, 1065, 1066, 1067, 1068, 1069, 1070, 1071, 1072, 1073, 1074, 1075, 1076, 1077, 1078, 1079, 1080, 1081, 1082, 1083, 1084] (by decide +kernel) (by decide +kernel)
set_option maxRecDepth 20000 in
theorem gL_law_X12_restore : GoodIn wsL_law (wsV RL 106 RX12 yX12_restore wsX12_restore) := goodIn_app (goodIn_of _ (by decide +kernel)) ggL_law_X12_restore
set_option maxRecDepth 20000 in
theorem ggL_law_X11_count : GoodIn wsL_law wsX11_count := goodIn_r _ [976, 19, 977, 978, 340, 383, 384, 386, 979, 858, 15, 149, 339, 689, 949, 950, 951, 18, 952, 354, 980, 916, 917, 918, 63, 1027, 1028, 1029, 1030, 1031, 1032, 1033, 1034, 1035, 1087, 1088, 1089, 1090, 1091, 1092, 1093, 1094, 1095, 1096, 1097, 1098, 1099, 1100, 1101, 1102, 1103, 1104, 1085, 1086] (by decide +kernel) (by decide +kernel)
set_option maxRecDepth 20000 in
theorem gL_law_X11_count : GoodIn wsL_law (wsV RL 107 RX11 yX11_count wsX11_count) := goodIn_app (goodIn_of _ (by decide +kernel)) ggL_law_X11_count
set_option maxRecDepth 20000 in
theorem ggL_law_X12_count : GoodIn wsL_law wsX12_count := goodIn_r _ [984, 985, 986, 987, 5, 988, 364, 365, 366, 367, 369, 159, 368, 721, 989, 990, 991, 992, 116, 117, 961, 962, 963, 964, 119, 940, 941, 942, 943, 118, 1036, 1037, 1038, 1039, 1040, 1041, 1042, 1043, 1044, 1045, 1046, 1047, 1048, 1049, 1050, 1051, 1052, 1053, 1054, 1055, 1056, 1057, 1058, 1059, 1060, 1061, 1062, 1063, 1064, 1065, 1066, 1067, 1068, 1069, 1070, 1071, 1072, 1073, 1074, 1075, 1076, 1077, 1078, 1079, 1080, 1081, 1082, 1083, 1084] (by decide +kernel) (by decide +kernel)
set_option maxRecDepth 20000 in
theorem gL_law_X12_count : GoodIn wsL_law (wsV RL 110 RX12 yX12_count wsX12_count) := goodIn_app (goodIn_of _ (by decide +kernel)) ggL_law_X12_count
set_option maxRecDepth 20000 in
theorem ggL_law_X11_digest : GoodIn wsL_law wsX11_digest := goodIn_r _ [996, 997, 19, 340, 978, 32, 798, 799, 15, 149, 378, 379, 380, 2, 381, 382, 383, 384, 385, 386, 387, 388, 389, 390, 391, 392, 393, 394, 395, 396, 397, 398, 399, 400, 401, 18, 402, 59, 61, 62, 403, 404, 405, 406, 56, 60, 407, 408, 409, 410, 411, 46, 412, 413, 414, 415, 43, 416, 417, 418, 419, 420, 55, 421, 422, 423, 424, 425, 49, 426, 427, 428, 429, 52, 430, 431, 432, 433, 434, 435, 436, 437, 438, 439, 440, 441, 442, 240, 241, 242, 998, 999, 1000, 1001, 1002, 1003, 1004, 1005, 977, 24, 626, 627, 628, 23, 629, 630, 83, 84, 89, 631, 632, 633, 634, 635, 636, 637, 638, 639, 640, 641, 642, 643, 644, 645, 646, 244, 245, 647, 648, 649, 650, 651, 652, 653, 654, 655, 656, 657, 658, 659, 558, 559, 560, 57, 58, 660, 567, 568, 569, 1006, 1007, 1008, 1009, 28, 738, 507, 508, 509, 510, 511, 512, 513, 739, 740, 741, 27, 742, 743, 744, 95, 745, 746, 747, 748, 749, 537, 538, 539, 540, 750, 751, 752, 96, 753, 754, 755, 756, 757, 758, 759, 760, 761, 97, 762, 701, 702, 703, 763, 764, 765, 766, 767, 375, 376, 377, 354, 800, 801, 802, 31, 803, 804, 102, 103, 805, 806, 107, 807, 808, 809, 810, 811, 104, 812, 813, 814, 815, 816, 817, 818, 819, 820, 821, 822, 823, 824, 825, 352, 557, 826, 827, 828, 829, 830, 1010, 192, 193, 14, 194, 154, 37, 1011, 974, 975, 976, 979, 858, 339, 689, 949, 950, 951, 952, 980, 916, 917, 918, 63, 1027, 1028, 1029, 1030, 1031, 1032, 1033, 1034, 1035, 1087, 1088, 1089, 1090, 1091, 1092, 1093, 1094, 1095, 1096, 1097, 1098, 1099, 1100, 1101, 1102, 1103, 1104, 1117, 1118, 1119, 1120, 1121, 1122, 1123, 1124, 1085, 1086, 1105, 1106, 1107, 1108, 1109, 1110, 1111, 1112, 1113, 1114, 1115, 1116] (by decide +kernel) (by decide +kernel)
set_option maxRecDepth 20000 in
theorem gL_law_X11_digest : GoodIn wsL_law (wsV RL 111 RX11 yX11_digest wsX11_digest) := goodIn_app (goodIn_of _ (by decide +kernel)) ggL_law_X11_digest
set_option maxRecDepth 20000 in
theorem ggL_law_X12_digest : GoodIn wsL_law wsX12_digest := goodIn_r _ [1015, 1016, 1017, 366, 365, 112, 113, 114, 159, 125, 1018, 1019, 1020, 5, 1021, 364, 118, 451, 452, 453, 454, 115, 116, 117, 119, 455, 456, 457, 458, 369, 120, 121, 122, 123, 459, 460, 461, 462, 463, 464, 465, 466, 467, 468, 469, 470, 471, 472, 473, 474, 475, 476, 477, 478, 479, 480, 481, 482, 1022, 1023, 1024, 1025, 1026, 669, 670, 671, 672, 673, 674, 675, 676, 126, 677, 678, 679, 680, 681, 682, 683, 684, 574, 575, 576, 577, 582, 583, 584, 585, 772, 773, 774, 775, 130, 131, 776, 777, 778, 779, 780, 781, 782, 783, 784, 785, 786, 787, 788, 789, 790, 791, 837, 838, 839, 840, 132, 841, 842, 843, 844, 845, 133, 846, 847, 848, 849, 850, 851, 852, 853, 985, 986, 987, 988, 367, 368, 721, 989, 990, 991, 992, 961, 962, 963, 964, 940, 941, 942, 943, 1036, 1037, 1038, 1039, 1040, 1041, 1042, 1043, 1044, 1045, 1046, 1047, 1048, 1049, 1050, 1051, 1052, 1053, 1054, 1055, 1056, 1057, 1058, 1059, 1060, 1061, 1062, 1063, 1064, 1065, 1066, 1067, 1068, 1069, 1070, 1071, 1072, 1073, 1074, 1075, 1076, 1077, 1078, 1079, 1080, 1081, 1082, 1083, 1084] (by decide +kernel) (by decide +kernel)
set_option maxRecDepth 20000 in
theorem gL_law_X12_digest : GoodIn wsL_law (wsV RL 115 RX12 yX12_digest wsX12_digest) := goodIn_app (goodIn_of _ (by decide +kernel)) ggL_law_X12_digest
theorem dL_law_0 : decode cL_law 0 = .ok (.new 7, 3) := by decide +kernel
theorem dL_law_3 : decode cL_law 3 = .ok (.dup, 1) := by decide +kernel
theorem dL_law_4 : decode cL_law 4 = .ok (.invokespecial 9, 3) := by decide +kernel
theorem dL_law_7 : decode cL_law 7 = .ok (.astore_n 1, 1) := by decide +kernel
theorem dL_law_8 : decode cL_law 8 = .ok (.new 10, 3) := by decide +kernel
theorem dL_law_11 : decode cL_law 11 = .ok (.dup, 1) := by decide +kernel
theorem dL_law_12 : decode cL_law 12 = .ok (.invokespecial 12, 3) := by decide +kernel
theorem dL_law_15 : decode cL_law 15 = .ok (.astore_n 2, 1) := by decide +kernel
theorem dL_law_16 : decode cL_law 16 = .ok (.iconst 0, 1) := by decide +kernel
theorem dL_law_17 : decode cL_law 17 = .ok (.istore_n 3, 1) := by decide +kernel
theorem dL_law_18 : decode cL_law 18 = .ok (.iload_n 3, 1) := by decide +kernel
theorem dL_law_19 : decode cL_law 19 = .ok (.aload_n 0, 1) := by decide +kernel
theorem dL_law_20 : decode cL_law 20 = .ok (.arraylength, 1) := by decide +kernel
theorem dL_law_21 : decode cL_law 21 = .ok (.iconst 5, 1) := by decide +kernel
theorem dL_law_22 : decode cL_law 22 = .ok (.isub, 1) := by decide +kernel
theorem dL_law_23 : decode cL_law 23 = .ok (.if_icmp .gt 811, 3) := by decide +kernel
theorem dL_law_26 : decode cL_law 26 = .ok (.aload_n 0, 1) := by decide +kernel
theorem dL_law_27 : decode cL_law 27 = .ok (.iload_n 3, 1) := by decide +kernel
theorem dL_law_28 : decode cL_law 28 = .ok (.iaload, 1) := by decide +kernel
theorem dL_law_29 : decode cL_law 29 = .ok (.bipush 31, 2) := by decide +kernel
theorem dL_law_31 : decode cL_law 31 = .ok (.iand, 1) := by decide +kernel
theorem dL_law_32 : decode cL_law 32 = .ok (.tableswitch 796 0 23 #[112, 135, 148, 161, 174, 207, 240, 273, 316, 359, 382, 405, 428, 461, 514, 537, 570, 624, 677, 690, 733, 746, 759, 782], 112) := by decide +kernel
theorem dL_law_144 : decode cL_law 144 = .ok (.aload_n 1, 1) := by decide +kernel
theorem dL_law_145 : decode cL_law 145 = .ok (.aload_n 0, 1) := by decide +kernel
theorem dL_law_146 : decode cL_law 146 = .ok (.iload_n 3, 1) := by decide +kernel
theorem dL_law_147 : decode cL_law 147 = .ok (.iconst 1, 1) := by decide +kernel
theorem dL_law_148 : decode cL_law 148 = .ok (.iadd, 1) := by decide +kernel
theorem dL_law_149 : decode cL_law 149 = .ok (.iaload, 1) := by decide +kernel
theorem dL_law_150 : decode cL_law 150 = .ok (.invokevirtual 13, 3) := by decide +kernel
theorem dL_law_153 : decode cL_law 153 = .ok (.aload_n 2, 1) := by decide +kernel
theorem dL_law_154 : decode cL_law 154 = .ok (.aload_n 0, 1) := by decide +kernel
theorem dL_law_155 : decode cL_law 155 = .ok (.iload_n 3, 1) := by decide +kernel
theorem dL_law_156 : decode cL_law 156 = .ok (.iconst 1, 1) := by decide +kernel
theorem dL_law_157 : decode cL_law 157 = .ok (.iadd, 1) := by decide +kernel
theorem dL_law_158 : decode cL_law 158 = .ok (.iaload, 1) := by decide +kernel
theorem dL_law_159 : decode cL_law 159 = .ok (.invokevirtual 17, 3) := by decide +kernel
theorem dL_law_162 : decode cL_law 162 = .ok (.if_icmp .eq 666, 3) := by decide +kernel
theorem dL_law_165 : decode cL_law 165 = .ok (.iconst 0, 1) := by decide +kernel
theorem dL_law_166 : decode cL_law 166 = .ok (.ireturn, 1) := by decide +kernel
theorem dL_law_167 : decode cL_law 167 = .ok (.aload_n 1, 1) := by decide +kernel
theorem dL_law_168 : decode cL_law 168 = .ok (.invokevirtual 18, 3) := by decide +kernel
theorem dL_law_171 : decode cL_law 171 = .ok (.aload_n 2, 1) := by decide +kernel
theorem dL_law_172 : decode cL_law 172 = .ok (.invokevirtual 22, 3) := by decide +kernel
theorem dL_law_175 : decode cL_law 175 = .ok (.if_icmp .eq 653, 3) := by decide +kernel
theorem dL_law_178 : decode cL_law 178 = .ok (.iconst 0, 1) := by decide +kernel
theorem dL_law_179 : decode cL_law 179 = .ok (.ireturn, 1) := by decide +kernel
theorem dL_law_180 : decode cL_law 180 = .ok (.aload_n 1, 1) := by decide +kernel
theorem dL_law_181 : decode cL_law 181 = .ok (.invokevirtual 23, 3) := by decide +kernel
theorem dL_law_184 : decode cL_law 184 = .ok (.aload_n 2, 1) := by decide +kernel
theorem dL_law_185 : decode cL_law 185 = .ok (.invokevirtual 26, 3) := by decide +kernel
theorem dL_law_188 : decode cL_law 188 = .ok (.if_icmp .eq 640, 3) := by decide +kernel
theorem dL_law_191 : decode cL_law 191 = .ok (.iconst 0, 1) := by decide +kernel
theorem dL_law_192 : decode cL_law 192 = .ok (.ireturn, 1) := by decide +kernel
theorem dL_law_193 : decode cL_law 193 = .ok (.aload_n 1, 1) := by decide +kernel
theorem dL_law_194 : decode cL_law 194 = .ok (.invokevirtual 27, 3) := by decide +kernel
theorem dL_law_197 : decode cL_law 197 = .ok (.aload_n 2, 1) := by decide +kernel
theorem dL_law_198 : decode cL_law 198 = .ok (.invokevirtual 30, 3) := by decide +kernel
theorem dL_law_201 : decode cL_law 201 = .ok (.if_icmp .eq 627, 3) := by decide +kernel
theorem dL_law_204 : decode cL_law 204 = .ok (.iconst 0, 1) := by decide +kernel
theorem dL_law_205 : decode cL_law 205 = .ok (.ireturn, 1) := by decide +kernel
theorem dL_law_206 : decode cL_law 206 = .ok (.aload_n 1, 1) := by decide +kernel
theorem dL_law_207 : decode cL_law 207 = .ok (.aload_n 0, 1) := by decide +kernel
theorem dL_law_208 : decode cL_law 208 = .ok (.iload_n 3, 1) := by decide +kernel
theorem dL_law_209 : decode cL_law 209 = .ok (.iconst 1, 1) := by decide +kernel
theorem dL_law_210 : decode cL_law 210 = .ok (.iadd, 1) := by decide +kernel
theorem dL_law_211 : decode cL_law 211 = .ok (.iaload, 1) := by decide +kernel
theorem dL_law_212 : decode cL_law 212 = .ok (.aload_n 0, 1) := by decide +kernel
theorem dL_law_213 : decode cL_law 213 = .ok (.iload_n 3, 1) := by decide +kernel
theorem dL_law_214 : decode cL_law 214 = .ok (.iconst 2, 1) := by decide +kernel
theorem dL_law_215 : decode cL_law 215 = .ok (.iadd, 1) := by decide +kernel
theorem dL_law_216 : decode cL_law 216 = .ok (.iaload, 1) := by decide +kernel
theorem dL_law_217 : decode cL_law 217 = .ok (.invokevirtual 31, 3) := by decide +kernel
theorem dL_law_220 : decode cL_law 220 = .ok (.aload_n 2, 1) := by decide +kernel
theorem dL_law_221 : decode cL_law 221 = .ok (.aload_n 0, 1) := by decide +kernel
theorem dL_law_222 : decode cL_law 222 = .ok (.iload_n 3, 1) := by decide +kernel
theorem dL_law_223 : decode cL_law 223 = .ok (.iconst 1, 1) := by decide +kernel
theorem dL_law_224 : decode cL_law 224 = .ok (.iadd, 1) := by decide +kernel
theorem dL_law_225 : decode cL_law 225 = .ok (.iaload, 1) := by decide +kernel
theorem dL_law_226 : decode cL_law 226 = .ok (.aload_n 0, 1) := by decide +kernel
theorem dL_law_227 : decode cL_law 227 = .ok (.iload_n 3, 1) := by decide +kernel
theorem dL_law_228 : decode cL_law 228 = .ok (.iconst 2, 1) := by decide +kernel
theorem dL_law_229 : decode cL_law 229 = .ok (.iadd, 1) := by decide +kernel
theorem dL_law_230 : decode cL_law 230 = .ok (.iaload, 1) := by decide +kernel
theorem dL_law_231 : decode cL_law 231 = .ok (.invokevirtual 35, 3) := by decide +kernel
theorem dL_law_234 : decode cL_law 234 = .ok (.if_icmp .eq 594, 3) := by decide +kernel
theorem dL_law_237 : decode cL_law 237 = .ok (.iconst 0, 1) := by decide +kernel
theorem dL_law_238 : decode cL_law 238 = .ok (.ireturn, 1) := by decide +kernel
theorem dL_law_239 : decode cL_law 239 = .ok (.aload_n 1, 1) := by decide +kernel
theorem dL_law_240 : decode cL_law 240 = .ok (.aload_n 0, 1) := by decide +kernel
theorem dL_law_241 : decode cL_law 241 = .ok (.iload_n 3, 1) := by decide +kernel
theorem dL_law_242 : decode cL_law 242 = .ok (.iconst 1, 1) := by decide +kernel
theorem dL_law_243 : decode cL_law 243 = .ok (.iadd, 1) := by decide +kernel
theorem dL_law_244 : decode cL_law 244 = .ok (.iaload, 1) := by decide +kernel
theorem dL_law_245 : decode cL_law 245 = .ok (.aload_n 0, 1) := by decide +kernel
theorem dL_law_246 : decode cL_law 246 = .ok (.iload_n 3, 1) := by decide +kernel
theorem dL_law_247 : decode cL_law 247 = .ok (.iconst 2, 1) := by decide +kernel
theorem dL_law_248 : decode cL_law 248 = .ok (.iadd, 1) := by decide +kernel
theorem dL_law_249 : decode cL_law 249 = .ok (.iaload, 1) := by decide +kernel
theorem dL_law_250 : decode cL_law 250 = .ok (.invokevirtual 36, 3) := by decide +kernel
theorem dL_law_253 : decode cL_law 253 = .ok (.aload_n 2, 1) := by decide +kernel
theorem dL_law_254 : decode cL_law 254 = .ok (.aload_n 0, 1) := by decide +kernel
theorem dL_law_255 : decode cL_law 255 = .ok (.iload_n 3, 1) := by decide +kernel
theorem dL_law_256 : decode cL_law 256 = .ok (.iconst 1, 1) := by decide +kernel
theorem dL_law_257 : decode cL_law 257 = .ok (.iadd, 1) := by decide +kernel
theorem dL_law_258 : decode cL_law 258 = .ok (.iaload, 1) := by decide +kernel
theorem dL_law_259 : decode cL_law 259 = .ok (.aload_n 0, 1) := by decide +kernel
theorem dL_law_260 : decode cL_law 260 = .ok (.iload_n 3, 1) := by decide +kernel
theorem dL_law_261 : decode cL_law 261 = .ok (.iconst 2, 1) := by decide +kernel
theorem dL_law_262 : decode cL_law 262 = .ok (.iadd, 1) := by decide +kernel
theorem dL_law_263 : decode cL_law 263 = .ok (.iaload, 1) := by decide +kernel
theorem dL_law_264 : decode cL_law 264 = .ok (.invokevirtual 39, 3) := by decide +kernel
theorem dL_law_267 : decode cL_law 267 = .ok (.if_icmp .eq 561, 3) := by decide +kernel
theorem dL_law_270 : decode cL_law 270 = .ok (.iconst 0, 1) := by decide +kernel
theorem dL_law_271 : decode cL_law 271 = .ok (.ireturn, 1) := by decide +kernel
theorem dL_law_272 : decode cL_law 272 = .ok (.aload_n 1, 1) := by decide +kernel
theorem dL_law_273 : decode cL_law 273 = .ok (.aload_n 0, 1) := by decide +kernel
theorem dL_law_274 : decode cL_law 274 = .ok (.iload_n 3, 1) := by decide +kernel
theorem dL_law_275 : decode cL_law 275 = .ok (.iconst 1, 1) := by decide +kernel
theorem dL_law_276 : decode cL_law 276 = .ok (.iadd, 1) := by decide +kernel
theorem dL_law_277 : decode cL_law 277 = .ok (.iaload, 1) := by decide +kernel
theorem dL_law_278 : decode cL_law 278 = .ok (.aload_n 0, 1) := by decide +kernel
theorem dL_law_279 : decode cL_law 279 = .ok (.iload_n 3, 1) := by decide +kernel
theorem dL_law_280 : decode cL_law 280 = .ok (.iconst 2, 1) := by decide +kernel
theorem dL_law_281 : decode cL_law 281 = .ok (.iadd, 1) := by decide +kernel
theorem dL_law_282 : decode cL_law 282 = .ok (.iaload, 1) := by decide +kernel
theorem dL_law_283 : decode cL_law 283 = .ok (.invokevirtual 40, 3) := by decide +kernel
theorem dL_law_286 : decode cL_law 286 = .ok (.aload_n 2, 1) := by decide +kernel
theorem dL_law_287 : decode cL_law 287 = .ok (.aload_n 0, 1) := by decide +kernel
theorem dL_law_288 : decode cL_law 288 = .ok (.iload_n 3, 1) := by decide +kernel
theorem dL_law_289 : decode cL_law 289 = .ok (.iconst 1, 1) := by decide +kernel
theorem dL_law_290 : decode cL_law 290 = .ok (.iadd, 1) := by decide +kernel
theorem dL_law_291 : decode cL_law 291 = .ok (.iaload, 1) := by decide +kernel
theorem dL_law_292 : decode cL_law 292 = .ok (.aload_n 0, 1) := by decide +kernel
theorem dL_law_293 : decode cL_law 293 = .ok (.iload_n 3, 1) := by decide +kernel
theorem dL_law_294 : decode cL_law 294 = .ok (.iconst 2, 1) := by decide +kernel
theorem dL_law_295 : decode cL_law 295 = .ok (.iadd, 1) := by decide +kernel
theorem dL_law_296 : decode cL_law 296 = .ok (.iaload, 1) := by decide +kernel
theorem dL_law_297 : decode cL_law 297 = .ok (.invokevirtual 43, 3) := by decide +kernel
theorem dL_law_300 : decode cL_law 300 = .ok (.if_icmp .eq 528, 3) := by decide +kernel
theorem dL_law_303 : decode cL_law 303 = .ok (.iconst 0, 1) := by decide +kernel
theorem dL_law_304 : decode cL_law 304 = .ok (.ireturn, 1) := by decide +kernel
theorem dL_law_305 : decode cL_law 305 = .ok (.aload_n 1, 1) := by decide +kernel
theorem dL_law_306 : decode cL_law 306 = .ok (.aload_n 0, 1) := by decide +kernel
theorem dL_law_307 : decode cL_law 307 = .ok (.iload_n 3, 1) := by decide +kernel
theorem dL_law_308 : decode cL_law 308 = .ok (.iconst 1, 1) := by decide +kernel
theorem dL_law_309 : decode cL_law 309 = .ok (.iadd, 1) := by decide +kernel
theorem dL_law_310 : decode cL_law 310 = .ok (.iaload, 1) := by decide +kernel
theorem dL_law_311 : decode cL_law 311 = .ok (.aload_n 0, 1) := by decide +kernel
theorem dL_law_312 : decode cL_law 312 = .ok (.iload_n 3, 1) := by decide +kernel
theorem dL_law_313 : decode cL_law 313 = .ok (.iconst 2, 1) := by decide +kernel
theorem dL_law_314 : decode cL_law 314 = .ok (.iadd, 1) := by decide +kernel
theorem dL_law_315 : decode cL_law 315 = .ok (.iaload, 1) := by decide +kernel
theorem dL_law_316 : decode cL_law 316 = .ok (.aload_n 0, 1) := by decide +kernel
theorem dL_law_317 : decode cL_law 317 = .ok (.iload_n 3, 1) := by decide +kernel
theorem dL_law_318 : decode cL_law 318 = .ok (.iconst 3, 1) := by decide +kernel
theorem dL_law_319 : decode cL_law 319 = .ok (.iadd, 1) := by decide +kernel
theorem dL_law_320 : decode cL_law 320 = .ok (.iaload, 1) := by decide +kernel
theorem dL_law_321 : decode cL_law 321 = .ok (.invokevirtual 44, 3) := by decide +kernel
theorem dL_law_324 : decode cL_law 324 = .ok (.aload_n 2, 1) := by decide +kernel
theorem dL_law_325 : decode cL_law 325 = .ok (.aload_n 0, 1) := by decide +kernel
theorem dL_law_326 : decode cL_law 326 = .ok (.iload_n 3, 1) := by decide +kernel
theorem dL_law_327 : decode cL_law 327 = .ok (.iconst 1, 1) := by decide +kernel
theorem dL_law_328 : decode cL_law 328 = .ok (.iadd, 1) := by decide +kernel
theorem dL_law_329 : decode cL_law 329 = .ok (.iaload, 1) := by decide +kernel
theorem dL_law_330 : decode cL_law 330 = .ok (.aload_n 0, 1) := by decide +kernel
theorem dL_law_331 : decode cL_law 331 = .ok (.iload_n 3, 1) := by decide +kernel
theorem dL_law_332 : decode cL_law 332 = .ok (.iconst 2, 1) := by decide +kernel
theorem dL_law_333 : decode cL_law 333 = .ok (.iadd, 1) := by decide +kernel
theorem dL_law_334 : decode cL_law 334 = .ok (.iaload, 1) := by decide +kernel
theorem dL_law_335 : decode cL_law 335 = .ok (.aload_n 0, 1) := by decide +kernel
theorem dL_law_336 : decode cL_law 336 = .ok (.iload_n 3, 1) := by decide +kernel
theorem dL_law_337 : decode cL_law 337 = .ok (.iconst 3, 1) := by decide +kernel
theorem dL_law_338 : decode cL_law 338 = .ok (.iadd, 1) := by decide +kernel
theorem dL_law_339 : decode cL_law 339 = .ok (.iaload, 1) := by decide +kernel
theorem dL_law_340 : decode cL_law 340 = .ok (.invokevirtual 48, 3) := by decide +kernel
theorem dL_law_343 : decode cL_law 343 = .ok (.if_icmp .eq 485, 3) := by decide +kernel
theorem dL_law_346 : decode cL_law 346 = .ok (.iconst 0, 1) := by decide +kernel
theorem dL_law_347 : decode cL_law 347 = .ok (.ireturn, 1) := by decide +kernel
theorem dL_law_348 : decode cL_law 348 = .ok (.aload_n 1, 1) := by decide +kernel
theorem dL_law_349 : decode cL_law 349 = .ok (.aload_n 0, 1) := by decide +kernel
theorem dL_law_350 : decode cL_law 350 = .ok (.iload_n 3, 1) := by decide +kernel
theorem dL_law_351 : decode cL_law 351 = .ok (.iconst 1, 1) := by decide +kernel
theorem dL_law_352 : decode cL_law 352 = .ok (.iadd, 1) := by decide +kernel
theorem dL_law_353 : decode cL_law 353 = .ok (.iaload, 1) := by decide +kernel
theorem dL_law_354 : decode cL_law 354 = .ok (.aload_n 0, 1) := by decide +kernel
theorem dL_law_355 : decode cL_law 355 = .ok (.iload_n 3, 1) := by decide +kernel
theorem dL_law_356 : decode cL_law 356 = .ok (.iconst 2, 1) := by decide +kernel
theorem dL_law_357 : decode cL_law 357 = .ok (.iadd, 1) := by decide +kernel
theorem dL_law_358 : decode cL_law 358 = .ok (.iaload, 1) := by decide +kernel
theorem dL_law_359 : decode cL_law 359 = .ok (.aload_n 0, 1) := by decide +kernel
theorem dL_law_360 : decode cL_law 360 = .ok (.iload_n 3, 1) := by decide +kernel
theorem dL_law_361 : decode cL_law 361 = .ok (.iconst 3, 1) := by decide +kernel
theorem dL_law_362 : decode cL_law 362 = .ok (.iadd, 1) := by decide +kernel
theorem dL_law_363 : decode cL_law 363 = .ok (.iaload, 1) := by decide +kernel
theorem dL_law_364 : decode cL_law 364 = .ok (.invokevirtual 49, 3) := by decide +kernel
theorem dL_law_367 : decode cL_law 367 = .ok (.aload_n 2, 1) := by decide +kernel
theorem dL_law_368 : decode cL_law 368 = .ok (.aload_n 0, 1) := by decide +kernel
theorem dL_law_369 : decode cL_law 369 = .ok (.iload_n 3, 1) := by decide +kernel
theorem dL_law_370 : decode cL_law 370 = .ok (.iconst 1, 1) := by decide +kernel
theorem dL_law_371 : decode cL_law 371 = .ok (.iadd, 1) := by decide +kernel
theorem dL_law_372 : decode cL_law 372 = .ok (.iaload, 1) := by decide +kernel
theorem dL_law_373 : decode cL_law 373 = .ok (.aload_n 0, 1) := by decide +kernel
theorem dL_law_374 : decode cL_law 374 = .ok (.iload_n 3, 1) := by decide +kernel
theorem dL_law_375 : decode cL_law 375 = .ok (.iconst 2, 1) := by decide +kernel
theorem dL_law_376 : decode cL_law 376 = .ok (.iadd, 1) := by decide +kernel
theorem dL_law_377 : decode cL_law 377 = .ok (.iaload, 1) := by decide +kernel
theorem dL_law_378 : decode cL_law 378 = .ok (.aload_n 0, 1) := by decide +kernel
theorem dL_law_379 : decode cL_law 379 = .ok (.iload_n 3, 1) := by decide +kernel
theorem dL_law_380 : decode cL_law 380 = .ok (.iconst 3, 1) := by decide +kernel
theorem dL_law_381 : decode cL_law 381 = .ok (.iadd, 1) := by decide +kernel
theorem dL_law_382 : decode cL_law 382 = .ok (.iaload, 1) := by decide +kernel
theorem dL_law_383 : decode cL_law 383 = .ok (.invokevirtual 52, 3) := by decide +kernel
theorem dL_law_386 : decode cL_law 386 = .ok (.if_icmp .eq 442, 3) := by decide +kernel
theorem dL_law_389 : decode cL_law 389 = .ok (.iconst 0, 1) := by decide +kernel
theorem dL_law_390 : decode cL_law 390 = .ok (.ireturn, 1) := by decide +kernel
theorem dL_law_391 : decode cL_law 391 = .ok (.aload_n 1, 1) := by decide +kernel
theorem dL_law_392 : decode cL_law 392 = .ok (.aload_n 0, 1) := by decide +kernel
theorem dL_law_393 : decode cL_law 393 = .ok (.iload_n 3, 1) := by decide +kernel
theorem dL_law_394 : decode cL_law 394 = .ok (.iconst 1, 1) := by decide +kernel
theorem dL_law_395 : decode cL_law 395 = .ok (.iadd, 1) := by decide +kernel
theorem dL_law_396 : decode cL_law 396 = .ok (.iaload, 1) := by decide +kernel
theorem dL_law_397 : decode cL_law 397 = .ok (.invokevirtual 53, 3) := by decide +kernel
theorem dL_law_400 : decode cL_law 400 = .ok (.aload_n 2, 1) := by decide +kernel
theorem dL_law_401 : decode cL_law 401 = .ok (.aload_n 0, 1) := by decide +kernel
theorem dL_law_402 : decode cL_law 402 = .ok (.iload_n 3, 1) := by decide +kernel
theorem dL_law_403 : decode cL_law 403 = .ok (.iconst 1, 1) := by decide +kernel
theorem dL_law_404 : decode cL_law 404 = .ok (.iadd, 1) := by decide +kernel
theorem dL_law_405 : decode cL_law 405 = .ok (.iaload, 1) := by decide +kernel
theorem dL_law_406 : decode cL_law 406 = .ok (.invokevirtual 56, 3) := by decide +kernel
theorem dL_law_409 : decode cL_law 409 = .ok (.if_icmp .eq 419, 3) := by decide +kernel
theorem dL_law_412 : decode cL_law 412 = .ok (.iconst 0, 1) := by decide +kernel
theorem dL_law_413 : decode cL_law 413 = .ok (.ireturn, 1) := by decide +kernel
theorem dL_law_414 : decode cL_law 414 = .ok (.aload_n 1, 1) := by decide +kernel
theorem dL_law_415 : decode cL_law 415 = .ok (.aload_n 0, 1) := by decide +kernel
theorem dL_law_416 : decode cL_law 416 = .ok (.iload_n 3, 1) := by decide +kernel
theorem dL_law_417 : decode cL_law 417 = .ok (.iconst 1, 1) := by decide +kernel
theorem dL_law_418 : decode cL_law 418 = .ok (.iadd, 1) := by decide +kernel
theorem dL_law_419 : decode cL_law 419 = .ok (.iaload, 1) := by decide +kernel
theorem dL_law_420 : decode cL_law 420 = .ok (.invokevirtual 57, 3) := by decide +kernel
theorem dL_law_423 : decode cL_law 423 = .ok (.aload_n 2, 1) := by decide +kernel
theorem dL_law_424 : decode cL_law 424 = .ok (.aload_n 0, 1) := by decide +kernel
theorem dL_law_425 : decode cL_law 425 = .ok (.iload_n 3, 1) := by decide +kernel
theorem dL_law_426 : decode cL_law 426 = .ok (.iconst 1, 1) := by decide +kernel
theorem dL_law_427 : decode cL_law 427 = .ok (.iadd, 1) := by decide +kernel
theorem dL_law_428 : decode cL_law 428 = .ok (.iaload, 1) := by decide +kernel
theorem dL_law_429 : decode cL_law 429 = .ok (.invokevirtual 60, 3) := by decide +kernel
theorem dL_law_432 : decode cL_law 432 = .ok (.if_icmp .eq 396, 3) := by decide +kernel
theorem dL_law_435 : decode cL_law 435 = .ok (.iconst 0, 1) := by decide +kernel
theorem dL_law_436 : decode cL_law 436 = .ok (.ireturn, 1) := by decide +kernel
theorem dL_law_437 : decode cL_law 437 = .ok (.aload_n 1, 1) := by decide +kernel
theorem dL_law_438 : decode cL_law 438 = .ok (.aload_n 0, 1) := by decide +kernel
theorem dL_law_439 : decode cL_law 439 = .ok (.iload_n 3, 1) := by decide +kernel
theorem dL_law_440 : decode cL_law 440 = .ok (.iconst 1, 1) := by decide +kernel
theorem dL_law_441 : decode cL_law 441 = .ok (.iadd, 1) := by decide +kernel
theorem dL_law_442 : decode cL_law 442 = .ok (.iaload, 1) := by decide +kernel
theorem dL_law_443 : decode cL_law 443 = .ok (.invokevirtual 61, 3) := by decide +kernel
theorem dL_law_446 : decode cL_law 446 = .ok (.aload_n 2, 1) := by decide +kernel
theorem dL_law_447 : decode cL_law 447 = .ok (.aload_n 0, 1) := by decide +kernel
theorem dL_law_448 : decode cL_law 448 = .ok (.iload_n 3, 1) := by decide +kernel
theorem dL_law_449 : decode cL_law 449 = .ok (.iconst 1, 1) := by decide +kernel
theorem dL_law_450 : decode cL_law 450 = .ok (.iadd, 1) := by decide +kernel
theorem dL_law_451 : decode cL_law 451 = .ok (.iaload, 1) := by decide +kernel
theorem dL_law_452 : decode cL_law 452 = .ok (.invokevirtual 64, 3) := by decide +kernel
theorem dL_law_455 : decode cL_law 455 = .ok (.if_icmp .eq 373, 3) := by decide +kernel
theorem dL_law_458 : decode cL_law 458 = .ok (.iconst 0, 1) := by decide +kernel
theorem dL_law_459 : decode cL_law 459 = .ok (.ireturn, 1) := by decide +kernel
theorem dL_law_460 : decode cL_law 460 = .ok (.aload_n 1, 1) := by decide +kernel
theorem dL_law_461 : decode cL_law 461 = .ok (.aload_n 0, 1) := by decide +kernel
theorem dL_law_462 : decode cL_law 462 = .ok (.iload_n 3, 1) := by decide +kernel
theorem dL_law_463 : decode cL_law 463 = .ok (.iconst 1, 1) := by decide +kernel
theorem dL_law_464 : decode cL_law 464 = .ok (.iadd, 1) := by decide +kernel
theorem dL_law_465 : decode cL_law 465 = .ok (.iaload, 1) := by decide +kernel
theorem dL_law_466 : decode cL_law 466 = .ok (.aload_n 0, 1) := by decide +kernel
theorem dL_law_467 : decode cL_law 467 = .ok (.iload_n 3, 1) := by decide +kernel
theorem dL_law_468 : decode cL_law 468 = .ok (.iconst 2, 1) := by decide +kernel
theorem dL_law_469 : decode cL_law 469 = .ok (.iadd, 1) := by decide +kernel
theorem dL_law_470 : decode cL_law 470 = .ok (.iaload, 1) := by decide +kernel
theorem dL_law_471 : decode cL_law 471 = .ok (.invokevirtual 65, 3) := by decide +kernel
theorem dL_law_474 : decode cL_law 474 = .ok (.aload_n 2, 1) := by decide +kernel
theorem dL_law_475 : decode cL_law 475 = .ok (.aload_n 0, 1) := by decide +kernel
theorem dL_law_476 : decode cL_law 476 = .ok (.iload_n 3, 1) := by decide +kernel
theorem dL_law_477 : decode cL_law 477 = .ok (.iconst 1, 1) := by decide +kernel
theorem dL_law_478 : decode cL_law 478 = .ok (.iadd, 1) := by decide +kernel
theorem dL_law_479 : decode cL_law 479 = .ok (.iaload, 1) := by decide +kernel
theorem dL_law_480 : decode cL_law 480 = .ok (.aload_n 0, 1) := by decide +kernel
theorem dL_law_481 : decode cL_law 481 = .ok (.iload_n 3, 1) := by decide +kernel
theorem dL_law_482 : decode cL_law 482 = .ok (.iconst 2, 1) := by decide +kernel
theorem dL_law_483 : decode cL_law 483 = .ok (.iadd, 1) := by decide +kernel
theorem dL_law_484 : decode cL_law 484 = .ok (.iaload, 1) := by decide +kernel
theorem dL_law_485 : decode cL_law 485 = .ok (.invokevirtual 68, 3) := by decide +kernel
theorem dL_law_488 : decode cL_law 488 = .ok (.if_icmp .eq 340, 3) := by decide +kernel
theorem dL_law_491 : decode cL_law 491 = .ok (.iconst 0, 1) := by decide +kernel
theorem dL_law_492 : decode cL_law 492 = .ok (.ireturn, 1) := by decide +kernel
theorem dL_law_493 : decode cL_law 493 = .ok (.aload_n 1, 1) := by decide +kernel
theorem dL_law_494 : decode cL_law 494 = .ok (.aload_n 0, 1) := by decide +kernel
theorem dL_law_495 : decode cL_law 495 = .ok (.iload_n 3, 1) := by decide +kernel
theorem dL_law_496 : decode cL_law 496 = .ok (.iconst 1, 1) := by decide +kernel
theorem dL_law_497 : decode cL_law 497 = .ok (.iadd, 1) := by decide +kernel
theorem dL_law_498 : decode cL_law 498 = .ok (.iaload, 1) := by decide +kernel
theorem dL_law_499 : decode cL_law 499 = .ok (.aload_n 0, 1) := by decide +kernel
theorem dL_law_500 : decode cL_law 500 = .ok (.iload_n 3, 1) := by decide +kernel
theorem dL_law_501 : decode cL_law 501 = .ok (.iconst 2, 1) := by decide +kernel
theorem dL_law_502 : decode cL_law 502 = .ok (.iadd, 1) := by decide +kernel
theorem dL_law_503 : decode cL_law 503 = .ok (.iaload, 1) := by decide +kernel
theorem dL_law_504 : decode cL_law 504 = .ok (.aload_n 0, 1) := by decide +kernel
theorem dL_law_505 : decode cL_law 505 = .ok (.iload_n 3, 1) := by decide +kernel
theorem dL_law_506 : decode cL_law 506 = .ok (.iconst 3, 1) := by decide +kernel
theorem dL_law_507 : decode cL_law 507 = .ok (.iadd, 1) := by decide +kernel
theorem dL_law_508 : decode cL_law 508 = .ok (.iaload, 1) := by decide +kernel
theorem dL_law_509 : decode cL_law 509 = .ok (.aload_n 0, 1) := by decide +kernel
theorem dL_law_510 : decode cL_law 510 = .ok (.iload_n 3, 1) := by decide +kernel
theorem dL_law_511 : decode cL_law 511 = .ok (.iconst 4, 1) := by decide +kernel
theorem dL_law_512 : decode cL_law 512 = .ok (.iadd, 1) := by decide +kernel
theorem dL_law_513 : decode cL_law 513 = .ok (.iaload, 1) := by decide +kernel
theorem dL_law_514 : decode cL_law 514 = .ok (.invokevirtual 69, 3) := by decide +kernel
theorem dL_law_517 : decode cL_law 517 = .ok (.aload_n 2, 1) := by decide +kernel
theorem dL_law_518 : decode cL_law 518 = .ok (.aload_n 0, 1) := by decide +kernel
theorem dL_law_519 : decode cL_law 519 = .ok (.iload_n 3, 1) := by decide +kernel
theorem dL_law_520 : decode cL_law 520 = .ok (.iconst 1, 1) := by decide +kernel
theorem dL_law_521 : decode cL_law 521 = .ok (.iadd, 1) := by decide +kernel
theorem dL_law_522 : decode cL_law 522 = .ok (.iaload, 1) := by decide +kernel
theorem dL_law_523 : decode cL_law 523 = .ok (.aload_n 0, 1) := by decide +kernel
theorem dL_law_524 : decode cL_law 524 = .ok (.iload_n 3, 1) := by decide +kernel
theorem dL_law_525 : decode cL_law 525 = .ok (.iconst 2, 1) := by decide +kernel
theorem dL_law_526 : decode cL_law 526 = .ok (.iadd, 1) := by decide +kernel
theorem dL_law_527 : decode cL_law 527 = .ok (.iaload, 1) := by decide +kernel
theorem dL_law_528 : decode cL_law 528 = .ok (.aload_n 0, 1) := by decide +kernel
theorem dL_law_529 : decode cL_law 529 = .ok (.iload_n 3, 1) := by decide +kernel
theorem dL_law_530 : decode cL_law 530 = .ok (.iconst 3, 1) := by decide +kernel
theorem dL_law_531 : decode cL_law 531 = .ok (.iadd, 1) := by decide +kernel
theorem dL_law_532 : decode cL_law 532 = .ok (.iaload, 1) := by decide +kernel
theorem dL_law_533 : decode cL_law 533 = .ok (.aload_n 0, 1) := by decide +kernel
theorem dL_law_534 : decode cL_law 534 = .ok (.iload_n 3, 1) := by decide +kernel
theorem dL_law_535 : decode cL_law 535 = .ok (.iconst 4, 1) := by decide +kernel
theorem dL_law_536 : decode cL_law 536 = .ok (.iadd, 1) := by decide +kernel
theorem dL_law_537 : decode cL_law 537 = .ok (.iaload, 1) := by decide +kernel
theorem dL_law_538 : decode cL_law 538 = .ok (.invokevirtual 73, 3) := by decide +kernel
theorem dL_law_541 : decode cL_law 541 = .ok (.if_icmp .eq 287, 3) := by decide +kernel
theorem dL_law_544 : decode cL_law 544 = .ok (.iconst 0, 1) := by decide +kernel
theorem dL_law_545 : decode cL_law 545 = .ok (.ireturn, 1) := by decide +kernel
theorem dL_law_546 : decode cL_law 546 = .ok (.aload_n 1, 1) := by decide +kernel
theorem dL_law_547 : decode cL_law 547 = .ok (.aload_n 0, 1) := by decide +kernel
theorem dL_law_548 : decode cL_law 548 = .ok (.iload_n 3, 1) := by decide +kernel
theorem dL_law_549 : decode cL_law 549 = .ok (.iconst 1, 1) := by decide +kernel
theorem dL_law_550 : decode cL_law 550 = .ok (.iadd, 1) := by decide +kernel
theorem dL_law_551 : decode cL_law 551 = .ok (.iaload, 1) := by decide +kernel
theorem dL_law_552 : decode cL_law 552 = .ok (.invokevirtual 74, 3) := by decide +kernel
theorem dL_law_555 : decode cL_law 555 = .ok (.aload_n 2, 1) := by decide +kernel
theorem dL_law_556 : decode cL_law 556 = .ok (.aload_n 0, 1) := by decide +kernel
theorem dL_law_557 : decode cL_law 557 = .ok (.iload_n 3, 1) := by decide +kernel
theorem dL_law_558 : decode cL_law 558 = .ok (.iconst 1, 1) := by decide +kernel
theorem dL_law_559 : decode cL_law 559 = .ok (.iadd, 1) := by decide +kernel
theorem dL_law_560 : decode cL_law 560 = .ok (.iaload, 1) := by decide +kernel
theorem dL_law_561 : decode cL_law 561 = .ok (.invokevirtual 77, 3) := by decide +kernel
theorem dL_law_564 : decode cL_law 564 = .ok (.if_icmp .eq 264, 3) := by decide +kernel
theorem dL_law_567 : decode cL_law 567 = .ok (.iconst 0, 1) := by decide +kernel
theorem dL_law_568 : decode cL_law 568 = .ok (.ireturn, 1) := by decide +kernel
theorem dL_law_569 : decode cL_law 569 = .ok (.aload_n 1, 1) := by decide +kernel
theorem dL_law_570 : decode cL_law 570 = .ok (.aload_n 0, 1) := by decide +kernel
theorem dL_law_571 : decode cL_law 571 = .ok (.iload_n 3, 1) := by decide +kernel
theorem dL_law_572 : decode cL_law 572 = .ok (.iconst 1, 1) := by decide +kernel
theorem dL_law_573 : decode cL_law 573 = .ok (.iadd, 1) := by decide +kernel
theorem dL_law_574 : decode cL_law 574 = .ok (.iaload, 1) := by decide +kernel
theorem dL_law_575 : decode cL_law 575 = .ok (.aload_n 0, 1) := by decide +kernel
theorem dL_law_576 : decode cL_law 576 = .ok (.iload_n 3, 1) := by decide +kernel
theorem dL_law_577 : decode cL_law 577 = .ok (.iconst 2, 1) := by decide +kernel
theorem dL_law_578 : decode cL_law 578 = .ok (.iadd, 1) := by decide +kernel
theorem dL_law_579 : decode cL_law 579 = .ok (.iaload, 1) := by decide +kernel
theorem dL_law_580 : decode cL_law 580 = .ok (.invokevirtual 78, 3) := by decide +kernel
theorem dL_law_583 : decode cL_law 583 = .ok (.aload_n 2, 1) := by decide +kernel
theorem dL_law_584 : decode cL_law 584 = .ok (.aload_n 0, 1) := by decide +kernel
theorem dL_law_585 : decode cL_law 585 = .ok (.iload_n 3, 1) := by decide +kernel
theorem dL_law_586 : decode cL_law 586 = .ok (.iconst 1, 1) := by decide +kernel
theorem dL_law_587 : decode cL_law 587 = .ok (.iadd, 1) := by decide +kernel
theorem dL_law_588 : decode cL_law 588 = .ok (.iaload, 1) := by decide +kernel
theorem dL_law_589 : decode cL_law 589 = .ok (.aload_n 0, 1) := by decide +kernel
theorem dL_law_590 : decode cL_law 590 = .ok (.iload_n 3, 1) := by decide +kernel
theorem dL_law_591 : decode cL_law 591 = .ok (.iconst 2, 1) := by decide +kernel
theorem dL_law_592 : decode cL_law 592 = .ok (.iadd, 1) := by decide +kernel
theorem dL_law_593 : decode cL_law 593 = .ok (.iaload, 1) := by decide +kernel
theorem dL_law_594 : decode cL_law 594 = .ok (.invokevirtual 81, 3) := by decide +kernel
theorem dL_law_597 : decode cL_law 597 = .ok (.if_icmp .eq 231, 3) := by decide +kernel
theorem dL_law_600 : decode cL_law 600 = .ok (.iconst 0, 1) := by decide +kernel
theorem dL_law_601 : decode cL_law 601 = .ok (.ireturn, 1) := by decide +kernel
theorem dL_law_602 : decode cL_law 602 = .ok (.aload_n 1, 1) := by decide +kernel
theorem dL_law_603 : decode cL_law 603 = .ok (.aload_n 0, 1) := by decide +kernel
theorem dL_law_604 : decode cL_law 604 = .ok (.iload_n 3, 1) := by decide +kernel
theorem dL_law_605 : decode cL_law 605 = .ok (.iconst 1, 1) := by decide +kernel
theorem dL_law_606 : decode cL_law 606 = .ok (.iadd, 1) := by decide +kernel
theorem dL_law_607 : decode cL_law 607 = .ok (.iaload, 1) := by decide +kernel
theorem dL_law_608 : decode cL_law 608 = .ok (.aload_n 0, 1) := by decide +kernel
theorem dL_law_609 : decode cL_law 609 = .ok (.iload_n 3, 1) := by decide +kernel
theorem dL_law_610 : decode cL_law 610 = .ok (.iconst 2, 1) := by decide +kernel
theorem dL_law_611 : decode cL_law 611 = .ok (.iadd, 1) := by decide +kernel
theorem dL_law_612 : decode cL_law 612 = .ok (.iaload, 1) := by decide +kernel
theorem dL_law_613 : decode cL_law 613 = .ok (.aload_n 0, 1) := by decide +kernel
theorem dL_law_614 : decode cL_law 614 = .ok (.iload_n 3, 1) := by decide +kernel
theorem dL_law_615 : decode cL_law 615 = .ok (.iconst 3, 1) := by decide +kernel
theorem dL_law_616 : decode cL_law 616 = .ok (.iadd, 1) := by decide +kernel
theorem dL_law_617 : decode cL_law 617 = .ok (.iaload, 1) := by decide +kernel
theorem dL_law_618 : decode cL_law 618 = .ok (.aload_n 0, 1) := by decide +kernel
theorem dL_law_619 : decode cL_law 619 = .ok (.iload_n 3, 1) := by decide +kernel
theorem dL_law_620 : decode cL_law 620 = .ok (.iconst 4, 1) := by decide +kernel
theorem dL_law_621 : decode cL_law 621 = .ok (.iadd, 1) := by decide +kernel
theorem dL_law_622 : decode cL_law 622 = .ok (.iaload, 1) := by decide +kernel
theorem dL_law_623 : decode cL_law 623 = .ok (.invokevirtual 82, 3) := by decide +kernel
theorem dL_law_626 : decode cL_law 626 = .ok (.aload_n 2, 1) := by decide +kernel
theorem dL_law_627 : decode cL_law 627 = .ok (.aload_n 0, 1) := by decide +kernel
theorem dL_law_628 : decode cL_law 628 = .ok (.iload_n 3, 1) := by decide +kernel
theorem dL_law_629 : decode cL_law 629 = .ok (.iconst 1, 1) := by decide +kernel
theorem dL_law_630 : decode cL_law 630 = .ok (.iadd, 1) := by decide +kernel
theorem dL_law_631 : decode cL_law 631 = .ok (.iaload, 1) := by decide +kernel
theorem dL_law_632 : decode cL_law 632 = .ok (.aload_n 0, 1) := by decide +kernel
theorem dL_law_633 : decode cL_law 633 = .ok (.iload_n 3, 1) := by decide +kernel
theorem dL_law_634 : decode cL_law 634 = .ok (.iconst 2, 1) := by decide +kernel
theorem dL_law_635 : decode cL_law 635 = .ok (.iadd, 1) := by decide +kernel
theorem dL_law_636 : decode cL_law 636 = .ok (.iaload, 1) := by decide +kernel
theorem dL_law_637 : decode cL_law 637 = .ok (.aload_n 0, 1) := by decide +kernel
theorem dL_law_638 : decode cL_law 638 = .ok (.iload_n 3, 1) := by decide +kernel
theorem dL_law_639 : decode cL_law 639 = .ok (.iconst 3, 1) := by decide +kernel
theorem dL_law_640 : decode cL_law 640 = .ok (.iadd, 1) := by decide +kernel
theorem dL_law_641 : decode cL_law 641 = .ok (.iaload, 1) := by decide +kernel
theorem dL_law_642 : decode cL_law 642 = .ok (.aload_n 0, 1) := by decide +kernel
theorem dL_law_643 : decode cL_law 643 = .ok (.iload_n 3, 1) := by decide +kernel
theorem dL_law_644 : decode cL_law 644 = .ok (.iconst 4, 1) := by decide +kernel
theorem dL_law_645 : decode cL_law 645 = .ok (.iadd, 1) := by decide +kernel
theorem dL_law_646 : decode cL_law 646 = .ok (.iaload, 1) := by decide +kernel
theorem dL_law_647 : decode cL_law 647 = .ok (.invokevirtual 86, 3) := by decide +kernel
theorem dL_law_650 : decode cL_law 650 = .ok (.lcmp, 1) := by decide +kernel
theorem dL_law_651 : decode cL_law 651 = .ok (.ifCond .eq 177, 3) := by decide +kernel
theorem dL_law_654 : decode cL_law 654 = .ok (.iconst 0, 1) := by decide +kernel
theorem dL_law_655 : decode cL_law 655 = .ok (.ireturn, 1) := by decide +kernel
theorem dL_law_656 : decode cL_law 656 = .ok (.aload_n 1, 1) := by decide +kernel
theorem dL_law_657 : decode cL_law 657 = .ok (.aload_n 0, 1) := by decide +kernel
theorem dL_law_658 : decode cL_law 658 = .ok (.iload_n 3, 1) := by decide +kernel
theorem dL_law_659 : decode cL_law 659 = .ok (.iconst 1, 1) := by decide +kernel
theorem dL_law_660 : decode cL_law 660 = .ok (.iadd, 1) := by decide +kernel
theorem dL_law_661 : decode cL_law 661 = .ok (.iaload, 1) := by decide +kernel
theorem dL_law_662 : decode cL_law 662 = .ok (.aload_n 0, 1) := by decide +kernel
theorem dL_law_663 : decode cL_law 663 = .ok (.iload_n 3, 1) := by decide +kernel
theorem dL_law_664 : decode cL_law 664 = .ok (.iconst 2, 1) := by decide +kernel
theorem dL_law_665 : decode cL_law 665 = .ok (.iadd, 1) := by decide +kernel
theorem dL_law_666 : decode cL_law 666 = .ok (.iaload, 1) := by decide +kernel
theorem dL_law_667 : decode cL_law 667 = .ok (.aload_n 0, 1) := by decide +kernel
theorem dL_law_668 : decode cL_law 668 = .ok (.iload_n 3, 1) := by decide +kernel
theorem dL_law_669 : decode cL_law 669 = .ok (.iconst 3, 1) := by decide +kernel
theorem dL_law_670 : decode cL_law 670 = .ok (.iadd, 1) := by decide +kernel
theorem dL_law_671 : decode cL_law 671 = .ok (.iaload, 1) := by decide +kernel
theorem dL_law_672 : decode cL_law 672 = .ok (.aload_n 0, 1) := by decide +kernel
theorem dL_law_673 : decode cL_law 673 = .ok (.iload_n 3, 1) := by decide +kernel
theorem dL_law_674 : decode cL_law 674 = .ok (.iconst 4, 1) := by decide +kernel
theorem dL_law_675 : decode cL_law 675 = .ok (.iadd, 1) := by decide +kernel
theorem dL_law_676 : decode cL_law 676 = .ok (.iaload, 1) := by decide +kernel
theorem dL_law_677 : decode cL_law 677 = .ok (.invokevirtual 87, 3) := by decide +kernel
theorem dL_law_680 : decode cL_law 680 = .ok (.aload_n 2, 1) := by decide +kernel
theorem dL_law_681 : decode cL_law 681 = .ok (.aload_n 0, 1) := by decide +kernel
theorem dL_law_682 : decode cL_law 682 = .ok (.iload_n 3, 1) := by decide +kernel
theorem dL_law_683 : decode cL_law 683 = .ok (.iconst 1, 1) := by decide +kernel
theorem dL_law_684 : decode cL_law 684 = .ok (.iadd, 1) := by decide +kernel
theorem dL_law_685 : decode cL_law 685 = .ok (.iaload, 1) := by decide +kernel
theorem dL_law_686 : decode cL_law 686 = .ok (.aload_n 0, 1) := by decide +kernel
theorem dL_law_687 : decode cL_law 687 = .ok (.iload_n 3, 1) := by decide +kernel
theorem dL_law_688 : decode cL_law 688 = .ok (.iconst 2, 1) := by decide +kernel
theorem dL_law_689 : decode cL_law 689 = .ok (.iadd, 1) := by decide +kernel
theorem dL_law_690 : decode cL_law 690 = .ok (.iaload, 1) := by decide +kernel
theorem dL_law_691 : decode cL_law 691 = .ok (.aload_n 0, 1) := by decide +kernel
theorem dL_law_692 : decode cL_law 692 = .ok (.iload_n 3, 1) := by decide +kernel
theorem dL_law_693 : decode cL_law 693 = .ok (.iconst 3, 1) := by decide +kernel
theorem dL_law_694 : decode cL_law 694 = .ok (.iadd, 1) := by decide +kernel
theorem dL_law_695 : decode cL_law 695 = .ok (.iaload, 1) := by decide +kernel
theorem dL_law_696 : decode cL_law 696 = .ok (.aload_n 0, 1) := by decide +kernel
theorem dL_law_697 : decode cL_law 697 = .ok (.iload_n 3, 1) := by decide +kernel
theorem dL_law_698 : decode cL_law 698 = .ok (.iconst 4, 1) := by decide +kernel
theorem dL_law_699 : decode cL_law 699 = .ok (.iadd, 1) := by decide +kernel
theorem dL_law_700 : decode cL_law 700 = .ok (.iaload, 1) := by decide +kernel
theorem dL_law_701 : decode cL_law 701 = .ok (.invokevirtual 90, 3) := by decide +kernel
theorem dL_law_704 : decode cL_law 704 = .ok (.if_icmp .eq 124, 3) := by decide +kernel
theorem dL_law_707 : decode cL_law 707 = .ok (.iconst 0, 1) := by decide +kernel
theorem dL_law_708 : decode cL_law 708 = .ok (.ireturn, 1) := by decide +kernel
theorem dL_law_709 : decode cL_law 709 = .ok (.aload_n 1, 1) := by decide +kernel
theorem dL_law_710 : decode cL_law 710 = .ok (.invokevirtual 91, 3) := by decide +kernel
theorem dL_law_713 : decode cL_law 713 = .ok (.aload_n 2, 1) := by decide +kernel
theorem dL_law_714 : decode cL_law 714 = .ok (.invokevirtual 94, 3) := by decide +kernel
theorem dL_law_717 : decode cL_law 717 = .ok (.if_icmp .eq 111, 3) := by decide +kernel
theorem dL_law_720 : decode cL_law 720 = .ok (.iconst 0, 1) := by decide +kernel
theorem dL_law_721 : decode cL_law 721 = .ok (.ireturn, 1) := by decide +kernel
theorem dL_law_722 : decode cL_law 722 = .ok (.aload_n 1, 1) := by decide +kernel
theorem dL_law_723 : decode cL_law 723 = .ok (.aload_n 0, 1) := by decide +kernel
theorem dL_law_724 : decode cL_law 724 = .ok (.iload_n 3, 1) := by decide +kernel
theorem dL_law_725 : decode cL_law 725 = .ok (.iconst 1, 1) := by decide +kernel
theorem dL_law_726 : decode cL_law 726 = .ok (.iadd, 1) := by decide +kernel
theorem dL_law_727 : decode cL_law 727 = .ok (.iaload, 1) := by decide +kernel
theorem dL_law_728 : decode cL_law 728 = .ok (.aload_n 0, 1) := by decide +kernel
theorem dL_law_729 : decode cL_law 729 = .ok (.iload_n 3, 1) := by decide +kernel
theorem dL_law_730 : decode cL_law 730 = .ok (.iconst 2, 1) := by decide +kernel
theorem dL_law_731 : decode cL_law 731 = .ok (.iadd, 1) := by decide +kernel
theorem dL_law_732 : decode cL_law 732 = .ok (.iaload, 1) := by decide +kernel
theorem dL_law_733 : decode cL_law 733 = .ok (.aload_n 0, 1) := by decide +kernel
theorem dL_law_734 : decode cL_law 734 = .ok (.iload_n 3, 1) := by decide +kernel
theorem dL_law_735 : decode cL_law 735 = .ok (.iconst 3, 1) := by decide +kernel
theorem dL_law_736 : decode cL_law 736 = .ok (.iadd, 1) := by decide +kernel
theorem dL_law_737 : decode cL_law 737 = .ok (.iaload, 1) := by decide +kernel
theorem dL_law_738 : decode cL_law 738 = .ok (.invokevirtual 95, 3) := by decide +kernel
theorem dL_law_741 : decode cL_law 741 = .ok (.aload_n 2, 1) := by decide +kernel
theorem dL_law_742 : decode cL_law 742 = .ok (.aload_n 0, 1) := by decide +kernel
theorem dL_law_743 : decode cL_law 743 = .ok (.iload_n 3, 1) := by decide +kernel
theorem dL_law_744 : decode cL_law 744 = .ok (.iconst 1, 1) := by decide +kernel
theorem dL_law_745 : decode cL_law 745 = .ok (.iadd, 1) := by decide +kernel
theorem dL_law_746 : decode cL_law 746 = .ok (.iaload, 1) := by decide +kernel
theorem dL_law_747 : decode cL_law 747 = .ok (.aload_n 0, 1) := by decide +kernel
theorem dL_law_748 : decode cL_law 748 = .ok (.iload_n 3, 1) := by decide +kernel
theorem dL_law_749 : decode cL_law 749 = .ok (.iconst 2, 1) := by decide +kernel
theorem dL_law_750 : decode cL_law 750 = .ok (.iadd, 1) := by decide +kernel
theorem dL_law_751 : decode cL_law 751 = .ok (.iaload, 1) := by decide +kernel
theorem dL_law_752 : decode cL_law 752 = .ok (.aload_n 0, 1) := by decide +kernel
theorem dL_law_753 : decode cL_law 753 = .ok (.iload_n 3, 1) := by decide +kernel
theorem dL_law_754 : decode cL_law 754 = .ok (.iconst 3, 1) := by decide +kernel
theorem dL_law_755 : decode cL_law 755 = .ok (.iadd, 1) := by decide +kernel
theorem dL_law_756 : decode cL_law 756 = .ok (.iaload, 1) := by decide +kernel
theorem dL_law_757 : decode cL_law 757 = .ok (.invokevirtual 98, 3) := by decide +kernel
theorem dL_law_760 : decode cL_law 760 = .ok (.if_icmp .eq 68, 3) := by decide +kernel
theorem dL_law_763 : decode cL_law 763 = .ok (.iconst 0, 1) := by decide +kernel
theorem dL_law_764 : decode cL_law 764 = .ok (.ireturn, 1) := by decide +kernel
theorem dL_law_765 : decode cL_law 765 = .ok (.aload_n 1, 1) := by decide +kernel
theorem dL_law_766 : decode cL_law 766 = .ok (.invokevirtual 99, 3) := by decide +kernel
theorem dL_law_769 : decode cL_law 769 = .ok (.aload_n 2, 1) := by decide +kernel
theorem dL_law_770 : decode cL_law 770 = .ok (.invokevirtual 102, 3) := by decide +kernel
theorem dL_law_773 : decode cL_law 773 = .ok (.if_icmp .eq 55, 3) := by decide +kernel
theorem dL_law_776 : decode cL_law 776 = .ok (.iconst 0, 1) := by decide +kernel
theorem dL_law_777 : decode cL_law 777 = .ok (.ireturn, 1) := by decide +kernel
theorem dL_law_778 : decode cL_law 778 = .ok (.aload_n 1, 1) := by decide +kernel
theorem dL_law_779 : decode cL_law 779 = .ok (.invokevirtual 103, 3) := by decide +kernel
theorem dL_law_782 : decode cL_law 782 = .ok (.aload_n 2, 1) := by decide +kernel
theorem dL_law_783 : decode cL_law 783 = .ok (.invokevirtual 106, 3) := by decide +kernel
theorem dL_law_786 : decode cL_law 786 = .ok (.if_icmp .eq 42, 3) := by decide +kernel
theorem dL_law_789 : decode cL_law 789 = .ok (.iconst 0, 1) := by decide +kernel
theorem dL_law_790 : decode cL_law 790 = .ok (.ireturn, 1) := by decide +kernel
theorem dL_law_791 : decode cL_law 791 = .ok (.aload_n 1, 1) := by decide +kernel
theorem dL_law_792 : decode cL_law 792 = .ok (.aload_n 0, 1) := by decide +kernel
theorem dL_law_793 : decode cL_law 793 = .ok (.iload_n 3, 1) := by decide +kernel
theorem dL_law_794 : decode cL_law 794 = .ok (.iconst 1, 1) := by decide +kernel
theorem dL_law_795 : decode cL_law 795 = .ok (.iadd, 1) := by decide +kernel
theorem dL_law_796 : decode cL_law 796 = .ok (.iaload, 1) := by decide +kernel
theorem dL_law_797 : decode cL_law 797 = .ok (.invokevirtual 107, 3) := by decide +kernel
theorem dL_law_800 : decode cL_law 800 = .ok (.aload_n 2, 1) := by decide +kernel
theorem dL_law_801 : decode cL_law 801 = .ok (.aload_n 0, 1) := by decide +kernel
theorem dL_law_802 : decode cL_law 802 = .ok (.iload_n 3, 1) := by decide +kernel
theorem dL_law_803 : decode cL_law 803 = .ok (.iconst 1, 1) := by decide +kernel
theorem dL_law_804 : decode cL_law 804 = .ok (.iadd, 1) := by decide +kernel
theorem dL_law_805 : decode cL_law 805 = .ok (.iaload, 1) := by decide +kernel
theorem dL_law_806 : decode cL_law 806 = .ok (.invokevirtual 110, 3) := by decide +kernel
theorem dL_law_809 : decode cL_law 809 = .ok (.if_icmp .eq 19, 3) := by decide +kernel
theorem dL_law_812 : decode cL_law 812 = .ok (.iconst 0, 1) := by decide +kernel
theorem dL_law_813 : decode cL_law 813 = .ok (.ireturn, 1) := by decide +kernel
theorem dL_law_814 : decode cL_law 814 = .ok (.aload_n 1, 1) := by decide +kernel
theorem dL_law_815 : decode cL_law 815 = .ok (.invokevirtual 111, 3) := by decide +kernel
theorem dL_law_818 : decode cL_law 818 = .ok (.aload_n 2, 1) := by decide +kernel
theorem dL_law_819 : decode cL_law 819 = .ok (.invokevirtual 115, 3) := by decide +kernel
theorem dL_law_822 : decode cL_law 822 = .ok (.lcmp, 1) := by decide +kernel
theorem dL_law_823 : decode cL_law 823 = .ok (.ifCond .eq 5, 3) := by decide +kernel
theorem dL_law_826 : decode cL_law 826 = .ok (.iconst 0, 1) := by decide +kernel
theorem dL_law_827 : decode cL_law 827 = .ok (.ireturn, 1) := by decide +kernel
theorem dL_law_828 : decode cL_law 828 = .ok (.iinc 3 5, 3) := by decide +kernel
theorem dL_law_831 : decode cL_law 831 = .ok (.goto (-813), 3) := by decide +kernel
theorem dL_law_834 : decode cL_law 834 = .ok (.iconst 1, 1) := by decide +kernel
theorem dL_law_835 : decode cL_law 835 = .ok (.ireturn, 1) := by decide +kernel
