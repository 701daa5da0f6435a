set_option maxRecDepth 20000 in
theorem ggL_law_X12_confess : GoodIn wsL_law wsX12_confess := goodIn_r _ [609, 116, 447, 448, 449, 5, 450, 366, 160, 161, 162, 1036, 1037, 1038, 1039, 1040, 1041, 1042, 1043, 1044, 1045, 1046, 1047, 1048, 1049, 1050, 1051, 1052, 1053, 1054, 1055, 1056, 1057, 1058, 1059, 1060, 1061, 1062, 1063, 1064, 1065, 1066, 1067, 1068, 1069, 1070, 1071, 1072, 1073, 1074, 1075, 1076, 1077, 1078, 1079, 1080, 1081, 1082, 1083, 1084] (by decide +kernel) (by decide +kernel)
set_option maxRecDepth 20000 in
theorem gL_law_X12_confess : GoodIn wsL_law (wsV RL 64 RX12 yX12_confess wsX12_confess) := goodIn_app (goodIn_of _ (by decide +kernel)) ggL_law_X12_confess
set_option maxRecDepth 20000 in
theorem ggL_law_X11_carpet : GoodIn wsL_law wsX11_carpet := goodIn_r _ [613, 19, 513, 503, 504, 505, 18, 506, 352, 1027, 1028, 1029, 1030, 1031, 1032, 1033, 1034, 1035, 1087, 1088, 1089, 1090, 1091, 1092, 1093, 1094, 1095, 1096, 1097, 1098, 1099, 1100, 1101, 1102, 1103, 1104] (by decide +kernel) (by decide +kernel)
set_option maxRecDepth 20000 in
theorem gL_law_X11_carpet : GoodIn wsL_law (wsV RL 65 RX11 yX11_carpet wsX11_carpet) := goodIn_app (goodIn_of _ (by decide +kernel)) ggL_law_X11_carpet
set_option maxRecDepth 20000 in
theorem ggL_law_X12_carpet : GoodIn wsL_law wsX12_carpet := goodIn_r _ [617, 114, 518, 519, 520, 5, 521, 365, 160, 161, 162, 1036, 1037, 1038, 1039, 1040, 1041, 1042, 1043, 1044, 1045, 1046, 1047, 1048, 1049, 1050, 1051, 1052, 1053, 1054, 1055, 1056, 1057, 1058, 1059, 1060, 1061, 1062, 1063, 1064, 1065, 1066, 1067, 1068, 1069, 1070, 1071, 1072, 1073, 1074, 1075, 1076, 1077, 1078, 1079, 1080, 1081, 1082, 1083, 1084] (by decide +kernel) (by decide +kernel)
set_option maxRecDepth 20000 in
theorem gL_law_X12_carpet : GoodIn wsL_law (wsV RL 68 RX12 yX12_carpet wsX12_carpet) := goodIn_app (goodIn_of _ (by decide +kernel)) ggL_law_X12_carpet
set_option maxRecDepth 20000 in
theorem ggL_law_X11_far : GoodIn wsL_law wsX11_far := goodIn_r _ [621, 19, 24, 374, 375, 376, 18, 377, 354, 622, 623, 624, 625, 350, 626, 627, 628, 23, 629, 630, 83, 84, 89, 631, 632, 633, 634, 635, 636, 637, 59, 61, 62, 403, 404, 405, 406, 56, 60, 407, 408, 409, 410, 411, 46, 412, 413, 414, 415, 43, 416, 417, 418, 419, 420, 55, 421, 422, 423, 424, 425, 49, 426, 427, 428, 429, 52, 430, 431, 432, 638, 639, 640, 641, 642, 643, 644, 645, 646, 244, 241, 245, 647, 648, 649, 650, 651, 652, 653, 654, 655, 656, 657, 658, 659, 558, 559, 560, 57, 58, 660, 567, 568, 569, 1027, 1028, 1029, 1030, 1031, 1032, 1033, 1034, 1035, 1087, 1088, 1089, 1090, 1091, 1092, 1093, 1094, 1095, 1096, 1097, 1098, 1099, 1100, 1101, 1102, 1103, 1104, 1105, 1106, 1107, 1108, 1109, 1110] (by decide +kernel) (by decide +kernel)
set_option maxRecDepth 20000 in
theorem gL_law_X11_far : GoodIn wsL_law (wsV RL 69 RX11 yX11_far wsX11_far) := goodIn_app (goodIn_of _ (by decide +kernel)) ggL_law_X11_far
set_option maxRecDepth 20000 in
theorem ggL_law_X12_far : GoodIn wsL_law wsX12_far := goodIn_r _ [664, 447, 448, 449, 5, 450, 366, 160, 161, 162, 665, 666, 667, 668, 364, 669, 670, 671, 672, 673, 674, 675, 676, 126, 475, 677, 678, 679, 680, 365, 112, 113, 467, 468, 469, 470, 114, 116, 117, 115, 681, 682, 683, 684, 574, 575, 576, 577, 582, 583, 584, 585, 1036, 1037, 1038, 1039, 1040, 1041, 1042, 1043, 1044, 1045, 1046, 1047, 1048, 1049, 1050, 1051, 1052, 1053, 1054, 1055, 1056, 1057, 1058, 1059, 1060, 1061, 1062, 1063, 1064, 1065, 1066, 1067, 1068, 1069, 1070, 1071, 1072, 1073, 1074, 1075, 1076, 1077, 1078, 1079, 1080, 1081, 1082, 1083, 1084] (by decide +kernel) (by decide +kernel)
set_option maxRecDepth 20000 in
theorem gL_law_X12_far : GoodIn wsL_law (wsV RL 73 RX12 yX12_far wsX12_far) := goodIn_app (goodIn_of _ (by decide +kernel)) ggL_law_X12_far
set_option maxRecDepth 20000 in
theorem ggL_law_X11_send : GoodIn wsL_law wsX11_send := goodIn_r _ [688, 19, 689, 24, 690, 691, 692, 18, 693, 350, 694, 695, 696, 23, 697, 698, 699, 84, 86, 700, 701, 702, 703, 89, 90, 704, 627, 628, 629, 630, 83, 631, 632, 633, 634, 635, 636, 637, 59, 61, 62, 403, 404, 405, 406, 56, 60, 407, 408, 409, 410, 411, 46, 412, 413, 414, 415, 43, 416, 417, 418, 419, 420, 55, 421, 422, 423, 424, 425, 49, 426, 427, 428, 429, 52, 430, 431, 432, 638, 639, 640, 641, 642, 643, 644, 645, 646, 244, 241, 245, 705, 706, 707, 87, 88, 708, 709, 710, 711, 712, 713, 714, 715, 716, 623, 624, 625, 1027, 1028, 1029, 1030, 1031, 1032, 1033, 1034, 1035, 1087, 1088, 1089, 1090, 1091, 1092, 1093, 1094, 1095, 1096, 1097, 1098, 1099, 1100, 1101, 1102, 1103, 1104, 1105, 1106, 1107, 1108, 1109, 1110] (by decide +kernel) (by decide +kernel)
set_option maxRecDepth 20000 in
theorem gL_law_X11_send : GoodIn wsL_law (wsV RL 74 RX11 yX11_send wsX11_send) := goodIn_app (goodIn_of _ (by decide +kernel)) ggL_law_X11_send
set_option maxRecDepth 20000 in
theorem ggL_law_X12_send : GoodIn wsL_law wsX12_send := goodIn_r _ [720, 366, 721, 160, 161, 5, 162, 722, 723, 724, 725, 364, 129, 118, 127, 128, 475, 673, 674, 675, 676, 126, 677, 678, 679, 680, 365, 112, 113, 467, 468, 469, 470, 114, 116, 117, 115, 726, 727, 728, 729, 480, 481, 482, 730, 731, 732, 733, 1036, 1037, 1038, 1039, 1040, 1041, 1042, 1043, 1044, 1045, 1046, 1047, 1048, 1049, 1050, 1051, 1052, 1053, 1054, 1055, 1056, 1057, 1058, 1059, 1060, 1061, 1062, 1063, 1064, 1065, 1066, 1067, 1068, 1069, 1070, 1071, 1072, 1073, 1074, 1075, 1076, 1077, 1078, 1079, 1080, 1081, 1082, 1083, 1084] (by decide +kernel) (by decide +kernel)
set_option maxRecDepth 20000 in
theorem gL_law_X12_send : GoodIn wsL_law (wsV RL 77 RX12 yX12_send wsX12_send) := goodIn_app (goodIn_of _ (by decide +kernel)) ggL_law_X12_send
set_option maxRecDepth 20000 in
theorem ggL_law_X11_pairs : GoodIn wsL_law wsX11_pairs := goodIn_r _ [737, 19, 28, 738, 503, 504, 505, 18, 506, 352, 739, 740, 741, 27, 742, 743, 744, 95, 745, 746, 747, 748, 635, 636, 637, 59, 61, 62, 403, 404, 405, 406, 56, 60, 407, 408, 409, 410, 411, 46, 412, 413, 414, 415, 43, 416, 417, 418, 419, 420, 55, 421, 422, 423, 424, 425, 49, 426, 427, 428, 429, 52, 430, 431, 432, 749, 537, 538, 539, 540, 400, 401, 402, 750, 751, 752, 96, 753, 240, 241, 242, 754, 755, 756, 757, 758, 759, 760, 761, 97, 762, 701, 702, 703, 763, 764, 765, 766, 767, 375, 376, 377, 354, 1027, 1028, 1029, 1030, 1031, 1032, 1033, 1034, 1035, 1111, 1112, 1113, 1114, 1115, 1116, 1087, 1088, 1089, 1090, 1091, 1092, 1093, 1094, 1095, 1096, 1097, 1098, 1099, 1100, 1101, 1102, 1103, 1104] (by decide +kernel) (by decide +kernel)
set_option maxRecDepth 20000 in
theorem gL_law_X11_pairs : GoodIn wsL_law (wsV RL 78 RX11 yX11_pairs wsX11_pairs) := goodIn_app (goodIn_of _ (by decide +kernel)) ggL_law_X11_pairs
set_option maxRecDepth 20000 in
theorem ggL_law_X12_pairs : GoodIn wsL_law wsX12_pairs := goodIn_r _ [771, 518, 519, 520, 5, 521, 365, 160, 161, 162, 772, 773, 774, 775, 130, 131, 475, 366, 776, 777, 778, 779, 780, 781, 782, 783, 463, 464, 465, 466, 467, 468, 469, 470, 114, 116, 117, 115, 784, 785, 786, 787, 788, 789, 790, 791, 1036, 1037, 1038, 1039, 1040, 1041, 1042, 1043, 1044, 1045, 1046, 1047, 1048, 1049, 1050, 1051, 1052, 1053, 1054, 1055, 1056, 1057, 1058, 1059, 1060, 1061, 1062, 1063, 1064, 1065, 1066, 1067, 1068, 1069, 1070, 1071, 1072, 1073, 1074, 1075, 1076, 1077, 1078, 1079, 1080, 1081, 1082, 1083, 1084] (by decide +kernel) (by decide +kernel)
set_option maxRecDepth 20000 in
theorem gL_law_X12_pairs : GoodIn wsL_law (wsV RL 81 RX12 yX12_pairs wsX12_pairs) := goodIn_app (goodIn_of _ (by decide +kernel)) ggL_law_X12_pairs
set_option maxRecDepth 20000 in
theorem ggL_law_X11_meet : GoodIn wsL_law wsX11_meet := goodIn_r _ [795, 19, 796, 797, 32, 798, 799, 374, 375, 376, 18, 377, 354, 800, 801, 802, 31, 803, 804, 102, 103, 805, 806, 107, 807, 808, 809, 810, 811, 104, 812, 701, 702, 703, 813, 814, 640, 815, 816, 817, 818, 819, 820, 821, 822, 823, 824, 825, 352, 557, 558, 559, 560, 57, 58, 826, 827, 567, 568, 569, 828, 829, 830, 1027, 1028, 1029, 1030, 1031, 1032, 1033, 1034, 1035, 1117, 1118, 1119, 1120, 1121, 1122, 1123, 1124, 1087, 1088, 1089, 1090, 1091, 1092, 1093, 1094, 1095, 1096, 1097, 1098, 1099, 1100, 1101, 1102, 1103, 1104] (by decide +kernel) (by decide +kernel)
set_option maxRecDepth 20000 in
theorem gL_law_X11_meet : GoodIn wsL_law (wsV RL 82 RX11 yX11_meet wsX11_meet) := goodIn_app (goodIn_of _ (by decide +kernel)) ggL_law_X11_meet
set_option maxRecDepth 20000 in
theorem ggL_law_X12_meet : GoodIn wsL_law wsX12_meet := goodIn_r _ [834, 835, 836, 447, 448, 449, 5, 450, 366, 160, 161, 162, 837, 838, 839, 840, 132, 118, 841, 364, 842, 843, 844, 845, 133, 846, 365, 847, 848, 849, 850, 574, 575, 576, 577, 112, 113, 582, 583, 584, 585, 851, 852, 853, 1036, 1037, 1038, 1039, 1040, 1041, 1042, 1043, 1044, 1045, 1046, 1047, 1048, 1049, 1050, 1051, 1052, 1053, 1054, 1055, 1056, 1057, 1058, 1059, 1060, 1061, 1062, 1063, 1064, 1065, 1066, 1067, 1068, 1069, 1070, 1071, 1072, 1073, 1074, 1075, 1076, 1077, 1078, 1079, 1080, 1081, 1082, 1083, 1084] (by decide +kernel) (by decide +kernel)
set_option maxRecDepth 20000 in
theorem gL_law_X12_meet : GoodIn wsL_law (wsV RL 86 RX12 yX12_meet wsX12_meet) := goodIn_app (goodIn_of _ (by decide +kernel)) ggL_law_X12_meet
set_option maxRecDepth 20000 in
theorem ggL_law_X11_see : GoodIn wsL_law wsX11_see := goodIn_r _ [857, 19, 858, 530, 531, 532, 18, 533, 534, 375, 376, 377, 354, 535, 504, 505, 506, 352, 859, 860, 861, 862, 356, 65, 66, 67, 68, 1027, 1028, 1029, 1030, 1031, 1032, 1033, 1034, 1035, 1087, 1088, 1089, 1090, 1091, 1092, 1093, 1094, 1095, 1096, 1097, 1098, 1099, 1100, 1101, 1102, 1103, 1104] (by decide +kernel) (by decide +kernel)
set_option maxRecDepth 20000 in
theorem gL_law_X11_see : GoodIn wsL_law (wsV RL 87 RX11 yX11_see wsX11_see) := goodIn_app (goodIn_of _ (by decide +kernel)) ggL_law_X11_see
set_option maxRecDepth 20000 in
theorem ggL_law_X12_see : GoodIn wsL_law wsX12_see := goodIn_r _ [866, 369, 120, 121, 122, 123, 447, 448, 449, 5, 450, 366, 160, 161, 162, 518, 519, 520, 521, 365, 545, 546, 547, 548, 1036, 1037, 1038, 1039, 1040, 1041, 1042, 1043, 1044, 1045, 1046, 1047, 1048, 1049, 1050, 1051, 1052, 1053, 1054, 1055, 1056, 1057, 1058, 1059, 1060, 1061, 1062, 1063, 1064, 1065, 1066, 1067, 1068, 1069, 1070, 1071, 1072, 1073, 1074, 1075, 1076, 1077, 1078, 1079, 1080, 1081, 1082, 1083, 1084] (by decide +kernel) (by decide +kernel)
set_option maxRecDepth 20000 in
theorem gL_law_X12_see : GoodIn wsL_law (wsV RL 90 RX12 yX12_see wsX12_see) := goodIn_app (goodIn_of _ (by decide +kernel)) ggL_law_X12_see
set_option maxRecDepth 20000 in
theorem ggL_law_X11_forget : GoodIn wsL_law wsX11_forget := goodIn_r _ [870, 19, 858, 1027, 1028, 1029, 1030, 1031, 1032, 1033, 1034, 1035, 1087, 1088, 1089, 1090, 1091, 1092, 1093, 1094, 1095, 1096, 1097, 1098, 1099, 1100, 1101, 1102, 1103, 1104] (by decide +kernel) (by decide +kernel)
set_option maxRecDepth 20000 in
theorem gL_law_X11_forget : GoodIn wsL_law (wsV RL 91 RX11 yX11_forget wsX11_forget) := goodIn_app (goodIn_of _ (by decide +kernel)) ggL_law_X11_forget
set_option maxRecDepth 20000 in
theorem ggL_law_X12_forget : GoodIn wsL_law wsX12_forget := goodIn_r _ [874, 369, 1036, 1037, 1038, 1039, 1040, 1041, 1042, 1043, 1044, 1045, 1046, 1047, 1048, 1049, 1050, 1051, 1052, 1053, 1054, 1055, 1056, 1057, 1058, 1059, 1060, 1061, 1062, 1063, 1064, 1065, 1066, 1067, 1068, 1069, 1070, 1071, 1072, 1073, 1074, 1075, 1076, 1077, 1078, 1079, 1080, 1081, 1082, 1083, 1084] (by decide +kernel) (by decide +kernel)
set_option maxRecDepth 20000 in
theorem gL_law_X12_forget : GoodIn wsL_law (wsV RL 94 RX12 yX12_forget wsX12_forget) := goodIn_app (goodIn_of _ (by decide +kernel)) ggL_law_X12_forget
set_option maxRecDepth 20000 in
theorem ggL_law_X11_days : GoodIn wsL_law wsX11_days := goodIn_r _ [878, 19, 32, 879, 880, 690, 691, 692, 18, 693, 350, 881, 882, 883, 31, 884, 106, 885, 886, 887, 888, 889, 890, 352, 354, 355, 356, 57, 891, 701, 702, 703, 58, 59, 60, 61, 62, 63, 64, 65, 66, 67, 68, 892, 893, 894, 895, 896, 804, 897, 898, 899, 900, 901, 902, 903, 904, 905, 822, 823, 824, 825, 557, 558, 559, 560, 906, 907, 908, 909, 910, 562, 563, 564, 565, 537, 538, 539, 540, 400, 401, 402, 403, 404, 405, 406, 56, 407, 408, 409, 410, 411, 46, 412, 413, 414, 415, 43, 416, 417, 418, 419, 420, 55, 421, 422, 423, 424, 425, 49, 426, 427, 428, 429, 52, 430, 431, 432, 566, 567, 568, 569, 911, 912, 913, 914, 915, 916, 917, 918, 1027, 1028, 1029, 1030, 1031, 1032, 1033, 1034, 1035, 1117, 1118, 1119, 1120, 1121, 1122, 1123, 1124, 1087, 1088, 1089, 1090, 1091, 1092, 1093, 1094, 1095, 1096, 1097, 1098, 1099, 1100, 1101, 1102, 1103, 1104] (by decide +kernel) (by decide +kernel)
set_option maxRecDepth 20000 in
theorem gL_law_X11_days : GoodIn wsL_law (wsV RL 95 RX11 yX11_days wsX11_days) := goodIn_app (goodIn_of _ (by decide +kernel)) ggL_law_X11_days
set_option maxRecDepth 20000 in
theorem ggL_law_X12_days : GoodIn wsL_law wsX12_days := goodIn_r _ [922, 366, 160, 161, 5, 162, 923, 924, 925, 926, 134, 117, 135, 118, 927, 928, 929, 930, 931, 932, 933, 934, 935, 847, 848, 849, 850, 365, 574, 575, 576, 577, 112, 113, 936, 937, 938, 939, 467, 468, 469, 470, 114, 116, 115, 582, 583, 584, 585, 940, 941, 942, 943, 1036, 1037, 1038, 1039, 1040, 1041, 1042, 1043, 1044, 1045, 1046, 1047, 1048, 1049, 1050, 1051, 1052, 1053, 1054, 1055, 1056, 1057, 1058, 1059, 1060, 1061, 1062, 1063, 1064, 1065, 1066, 1067, 1068, 1069, 1070, 1071, 1072, 1073, 1074, 1075, 1076, 1077, 1078, 1079, 1080, 1081, 1082, 1083, 1084] (by decide +kernel) (by decide +kernel)
set_option maxRecDepth 20000 in
theorem gL_law_X12_days : GoodIn wsL_law (wsV RL 98 RX12 yX12_days wsX12_days) := goodIn_app (goodIn_of _ (by decide +kernel)) ggL_law_X12_days
set_option maxRecDepth 20000 in
theorem ggL_law_X11_image : GoodIn wsL_law wsX11_image := goodIn_r _ [947, 19, 20, 338, 386, 690, 691, 692, 18, 693, 350, 948, 888, 889, 890, 352, 354, 355, 356, 57, 891, 701, 702, 703, 58, 59, 60, 61, 62, 63, 64, 65, 66, 67, 68, 949, 950, 951, 952, 1027, 1028, 1029, 1030, 1031, 1032, 1033, 1034, 1035, 1087, 1088, 1089, 1090, 1091, 1092, 1093, 1094, 1095, 1096, 1097, 1098, 1099, 1100, 1101, 1102, 1103, 1104] (by decide +kernel) (by decide +kernel)
set_option maxRecDepth 20000 in
theorem gL_law_X11_image : GoodIn wsL_law (wsV RL 99 RX11 yX11_image wsX11_image) := goodIn_app (goodIn_of _ (by decide +kernel)) ggL_law_X11_image
set_option maxRecDepth 20000 in
theorem ggL_law_X12_image : GoodIn wsL_law wsX12_image := goodIn_r _ [956, 366, 957, 368, 958, 367, 959, 369, 960, 136, 114, 137, 116, 138, 117, 139, 118, 140, 119, 141, 120, 142, 121, 143, 122, 144, 123, 961, 962, 963, 5, 964, 1036, 1037, 1038, 1039, 1040, 1041, 1042, 1043, 1044, 1045, 1046, 1047, 1048, 1049, 1050, 1051, 1052, 1053, 1054, 1055, 1056, 1057, 1058, 1059, 1060, 1061, 1062, 1063, 1064, 1065, 1066, 1067, 1068, 1069, 1070, 1071, 1072, 1073, 1074, 1075, 1076, 1077, 1078, 1079, 1080, 1081, 1082, 1083, 1084] (by decide +kernel) (by decide +kernel)
set_option maxRecDepth 20000 in
theorem gL_law_X12_image : GoodIn wsL_law (wsV RL 102 RX12 yX12_image wsX12_image) := goodIn_app (goodIn_of _ (by decide +kernel)) ggL_law_X12_image
set_option maxRecDepth 20000 in
theorem ggL_law_X11_restore : GoodIn wsL_law wsX11_restore := goodIn_r _ [968, 338, 19, 20, 386, 948, 888, 889, 18, 890, 350, 352, 354, 355, 356, 57, 891, 701, 702, 703, 58, 59, 60, 61, 62, 63, 64, 65, 66, 67, 68, 949, 950, 951, 952, 1027, 1028, 1029, 1030, 1031, 1032, 1033, 1034, 1035, 1087, 1088, 1089, 1090, 1091, 1092, 1093, 1094, 1095, 1096, 1097, 1098, 1099, 1100, 1101, 1102, 1103, 1104] (by decide +kernel) (by decide +kernel)
set_option maxRecDepth 20000 in
theorem gL_law_X11_restore : GoodIn wsL_law (wsV RL 103 RX11 yX11_restore wsX11_restore) := goodIn_app (goodIn_of _ (by decide +kernel)) ggL_law_X11_restore
set_option maxRecDepth 20000 in
theorem ggL_law_X12_restore : GoodIn wsL_law wsX12_restore := goodIn_r _ [972, 957, 958, 368, 959, 367, 960, 369, 114, 136, 116, 137, 117, 138, 118, 139, 119, 140, 120, 141, 121, 142, 122, 143, 123, 144, 961, 962, 963, 5, 964, 366, 1036, 1037, 1038, 1039, 1040, 1041, 1042, 1043, 1044, 1045, 1046, 1047, 1048, 1049, 1050, 1051, 1052, 1053, 1054, 1055, 1056, 1057, 1058, 1059, 1060, 1061, 1062, 1063, 1064, 1065, 1066, 1067, 1068, 1069, 1070, 1071, 1072, 1073, 1074, 1075, 1076, 1077, 1078, 1079, 1080, 1081, 1082, 1083, 1084] (by decide +kernel) (by decide +kernel)
set_option maxRecDepth 20000 in
theorem gL_law_X12_restore : GoodIn wsL_law (wsV RL 106 RX12 yX12_restore wsX12_restore) := goodIn_app (goodIn_of _ (by decide +kernel)) ggL_law_X12_restore
set_option maxRecDepth 20000 in
theorem ggL_law_X11_count : GoodIn wsL_law wsX11_count := goodIn_r _ [976, 19, 977, 978, 340, 383, 384, 386, 979, 858, 15, 149, 339, 689, 949, 950, 951, 18, 952, 354, 980, 916, 917, 918, 63, 1027, 1028, 1029, 1030, 1031, 1032, 1033, 1034, 1035, 1087, 1088, 1089, 1090, 1091, 1092, 1093, 1094, 1095, 1096, 1097, 1098, 1099, 1100, 1101, 1102, 1103, 1104, 1085, 1086] (by decide +kernel) (by decide +kernel)
set_option maxRecDepth 20000 in
theorem gL_law_X11_count : GoodIn wsL_law (wsV RL 107 RX11 yX11_count wsX11_count) := goodIn_app (goodIn_of _ (by decide +kernel)) ggL_law_X11_count
set_option maxRecDepth 20000 in
theorem ggL_law_X12_count : GoodIn wsL_law wsX12_count := goodIn_r _ [984, 985, 986, 987, 5, 988, 364, 365, 366, 367, 369, 159, 368, 721, 989, 990, 991, 992, 116, 117, 961, 962, 963, 964, 119, 940, 941, 942, 943, 118, 1036, 1037, 1038, 1039, 1040, 1041, 1042, 1043, 1044, 1045, 1046, 1047, 1048, 1049, 1050, 1051, 1052, 1053, 1054, 1055, 1056, 1057, 1058, 1059, 1060, 1061, 1062, 1063, 1064, 1065, 1066, 1067, 1068, 1069, 1070, 1071, 1072, 1073, 1074, 1075, 1076, 1077, 1078, 1079, 1080, 1081, 1082, 1083, 1084] (by decide +kernel) (by decide +kernel)
set_option maxRecDepth 20000 in
theorem gL_law_X12_count : GoodIn wsL_law (wsV RL 110 RX12 yX12_count wsX12_count) := goodIn_app (goodIn_of _ (by decide +kernel)) ggL_law_X12_count
