set_option maxRecDepth 20000 in
theorem ggL_law_X12_confess : GoodIn wsL_law wsX12_confess := goodIn_r _ [607, 116, 446, 447, 448, 5, 449, 366, 160, 161, 162, 1034, 1035, 1036, 1037, 1038, 1039, 1040, 1041, 1042, 1043, 1044, 1045, 1046, 1047, 1048, 1049, 1050, 1051, 1052, 1053, 1054, 1055, 1056, 1057, 1058, 1059, 1060, 1061, 1062, 1063, 1064, 1065, 1066, 1067, 1068, 1069, 1070, 1071, 1072, 1073, 1074, 1075, 1076, 1077, 1078, 1079, 1080, 1081, 1082] (by decide +kernel) (by decide +kernel)
set_option maxRecDepth 20000 in
theorem gL_law_X12_confess : GoodIn wsL_law (wsV RL 64 RX12 yX12_confess wsX12_confess) := goodIn_app (goodIn_of _ (by decide +kernel)) ggL_law_X12_confess
set_option maxRecDepth 20000 in
theorem ggL_law_X11_carpet : GoodIn wsL_law wsX11_carpet := goodIn_r _ [611, 19, 512, 502, 503, 504, 18, 505, 352, 1025, 1026, 1027, 1028, 1029, 1030, 1031, 1032, 1033, 1085, 1086, 1087, 1088, 1089, 1090, 1091, 1092, 1093, 1094, 1095, 1096, 1097, 1098, 1099, 1100, 1101, 1102] (by decide +kernel) (by decide +kernel)
set_option maxRecDepth 20000 in
theorem gL_law_X11_carpet : GoodIn wsL_law (wsV RL 65 RX11 yX11_carpet wsX11_carpet) := goodIn_app (goodIn_of _ (by decide +kernel)) ggL_law_X11_carpet
set_option maxRecDepth 20000 in
theorem ggL_law_X12_carpet : GoodIn wsL_law wsX12_carpet := goodIn_r _ [615, 114, 517, 518, 519, 5, 520, 365, 160, 161, 162, 1034, 1035, 1036, 1037, 1038, 1039, 1040, 1041, 1042, 1043, 1044, 1045, 1046, 1047, 1048, 1049, 1050, 1051, 1052, 1053, 1054, 1055, 1056, 1057, 1058, 1059, 1060, 1061, 1062, 1063, 1064, 1065, 1066, 1067, 1068, 1069, 1070, 1071, 1072, 1073, 1074, 1075, 1076, 1077, 1078, 1079, 1080, 1081, 1082] (by decide +kernel) (by decide +kernel)
set_option maxRecDepth 20000 in
theorem gL_law_X12_carpet : GoodIn wsL_law (wsV RL 68 RX12 yX12_carpet wsX12_carpet) := goodIn_app (goodIn_of _ (by decide +kernel)) ggL_law_X12_carpet
set_option maxRecDepth 20000 in
theorem ggL_law_X11_far : GoodIn wsL_law wsX11_far := goodIn_r _ [619, 19, 24, 374, 375, 376, 18, 377, 354, 620, 621, 622, 623, 350, 624, 625, 626, 23, 627, 628, 83, 84, 89, 629, 630, 631, 632, 633, 634, 635, 59, 61, 62, 403, 404, 405, 406, 56, 60, 407, 408, 409, 410, 411, 46, 412, 413, 414, 415, 43, 416, 417, 418, 419, 420, 55, 421, 422, 423, 424, 425, 49, 426, 427, 428, 429, 52, 430, 431, 432, 636, 637, 638, 639, 640, 641, 642, 643, 644, 244, 241, 245, 645, 646, 647, 648, 649, 650, 651, 652, 653, 654, 655, 656, 657, 557, 558, 559, 57, 58, 658, 565, 566, 567, 1025, 1026, 1027, 1028, 1029, 1030, 1031, 1032, 1033, 1085, 1086, 1087, 1088, 1089, 1090, 1091, 1092, 1093, 1094, 1095, 1096, 1097, 1098, 1099, 1100, 1101, 1102, 1103, 1104, 1105, 1106, 1107, 1108] (by decide +kernel) (by decide +kernel)
set_option maxRecDepth 20000 in
theorem gL_law_X11_far : GoodIn wsL_law (wsV RL 69 RX11 yX11_far wsX11_far) := goodIn_app (goodIn_of _ (by decide +kernel)) ggL_law_X11_far
set_option maxRecDepth 20000 in
theorem ggL_law_X12_far : GoodIn wsL_law wsX12_far := goodIn_r _ [662, 446, 447, 448, 5, 449, 366, 160, 161, 162, 663, 664, 665, 666, 364, 667, 668, 669, 670, 671, 672, 673, 674, 126, 474, 675, 676, 677, 678, 365, 112, 113, 466, 467, 468, 469, 114, 116, 117, 115, 679, 680, 681, 682, 572, 573, 574, 575, 580, 581, 582, 583, 1034, 1035, 1036, 1037, 1038, 1039, 1040, 1041, 1042, 1043, 1044, 1045, 1046, 1047, 1048, 1049, 1050, 1051, 1052, 1053, 1054, 1055, 1056, 1057, 1058, 1059, 1060, 1061, 1062, 1063, 1064, 1065, 1066, 1067, 1068, 1069, 1070, 1071, 1072, 1073, 1074, 1075, 1076, 1077, 1078, 1079, 1080, 1081, 1082] (by decide +kernel) (by decide +kernel)
set_option maxRecDepth 20000 in
theorem gL_law_X12_far : GoodIn wsL_law (wsV RL 73 RX12 yX12_far wsX12_far) := goodIn_app (goodIn_of _ (by decide +kernel)) ggL_law_X12_far
set_option maxRecDepth 20000 in
theorem ggL_law_X11_send : GoodIn wsL_law wsX11_send := goodIn_r _ [686, 19, 687, 24, 688, 689, 690, 18, 691, 350, 692, 693, 694, 23, 695, 696, 697, 84, 86, 698, 699, 700, 701, 89, 90, 702, 625, 626, 627, 628, 83, 629, 630, 631, 632, 633, 634, 635, 59, 61, 62, 403, 404, 405, 406, 56, 60, 407, 408, 409, 410, 411, 46, 412, 413, 414, 415, 43, 416, 417, 418, 419, 420, 55, 421, 422, 423, 424, 425, 49, 426, 427, 428, 429, 52, 430, 431, 432, 636, 637, 638, 639, 640, 641, 642, 643, 644, 244, 241, 245, 703, 704, 705, 87, 88, 706, 707, 708, 709, 710, 711, 712, 713, 714, 621, 622, 623, 1025, 1026, 1027, 1028, 1029, 1030, 1031, 1032, 1033, 1085, 1086, 1087, 1088, 1089, 1090, 1091, 1092, 1093, 1094, 1095, 1096, 1097, 1098, 1099, 1100, 1101, 1102, 1103, 1104, 1105, 1106, 1107, 1108] (by decide +kernel) (by decide +kernel)
set_option maxRecDepth 20000 in
theorem gL_law_X11_send : GoodIn wsL_law (wsV RL 74 RX11 yX11_send wsX11_send) := goodIn_app (goodIn_of _ (by decide +kernel)) ggL_law_X11_send
set_option maxRecDepth 20000 in
theorem ggL_law_X12_send : GoodIn wsL_law wsX12_send := goodIn_r _ [718, 366, 719, 160, 161, 5, 162, 720, 721, 722, 723, 364, 129, 118, 127, 128, 474, 671, 672, 673, 674, 126, 675, 676, 677, 678, 365, 112, 113, 466, 467, 468, 469, 114, 116, 117, 115, 724, 725, 726, 727, 479, 480, 481, 728, 729, 730, 731, 1034, 1035, 1036, 1037, 1038, 1039, 1040, 1041, 1042, 1043, 1044, 1045, 1046, 1047, 1048, 1049, 1050, 1051, 1052, 1053, 1054, 1055, 1056, 1057, 1058, 1059, 1060, 1061, 1062, 1063, 1064, 1065, 1066, 1067, 1068, 1069, 1070, 1071, 1072, 1073, 1074, 1075, 1076, 1077, 1078, 1079, 1080, 1081, 1082] (by decide +kernel) (by decide +kernel)
set_option maxRecDepth 20000 in
theorem gL_law_X12_send : GoodIn wsL_law (wsV RL 77 RX12 yX12_send wsX12_send) := goodIn_app (goodIn_of _ (by decide +kernel)) ggL_law_X12_send
set_option maxRecDepth 20000 in
theorem ggL_law_X11_pairs : GoodIn wsL_law wsX11_pairs := goodIn_r _ [735, 19, 28, 736, 502, 503, 504, 18, 505, 352, 737, 738, 739, 27, 740, 741, 742, 95, 743, 744, 745, 746, 633, 634, 635, 59, 61, 62, 403, 404, 405, 406, 56, 60, 407, 408, 409, 410, 411, 46, 412, 413, 414, 415, 43, 416, 417, 418, 419, 420, 55, 421, 422, 423, 424, 425, 49, 426, 427, 428, 429, 52, 430, 431, 432, 747, 536, 537, 538, 539, 400, 401, 402, 748, 749, 750, 96, 751, 240, 241, 242, 752, 753, 754, 755, 756, 757, 758, 759, 97, 760, 699, 700, 701, 761, 762, 763, 764, 765, 375, 376, 377, 354, 1025, 1026, 1027, 1028, 1029, 1030, 1031, 1032, 1033, 1109, 1110, 1111, 1112, 1113, 1114, 1085, 1086, 1087, 1088, 1089, 1090, 1091, 1092, 1093, 1094, 1095, 1096, 1097, 1098, 1099, 1100, 1101, 1102] (by decide +kernel) (by decide +kernel)
set_option maxRecDepth 20000 in
theorem gL_law_X11_pairs : GoodIn wsL_law (wsV RL 78 RX11 yX11_pairs wsX11_pairs) := goodIn_app (goodIn_of _ (by decide +kernel)) ggL_law_X11_pairs
set_option maxRecDepth 20000 in
theorem ggL_law_X12_pairs : GoodIn wsL_law wsX12_pairs := goodIn_r _ [769, 517, 518, 519, 5, 520, 365, 160, 161, 162, 770, 771, 772, 773, 130, 131, 474, 366, 774, 775, 776, 777, 778, 779, 780, 781, 462, 463, 464, 465, 466, 467, 468, 469, 114, 116, 117, 115, 782, 783, 784, 785, 786, 787, 788, 789, 1034, 1035, 1036, 1037, 1038, 1039, 1040, 1041, 1042, 1043, 1044, 1045, 1046, 1047, 1048, 1049, 1050, 1051, 1052, 1053, 1054, 1055, 1056, 1057, 1058, 1059, 1060, 1061, 1062, 1063, 1064, 1065, 1066, 1067, 1068, 1069, 1070, 1071, 1072, 1073, 1074, 1075, 1076, 1077, 1078, 1079, 1080, 1081, 1082] (by decide +kernel) (by decide +kernel)
set_option maxRecDepth 20000 in
theorem gL_law_X12_pairs : GoodIn wsL_law (wsV RL 81 RX12 yX12_pairs wsX12_pairs) := goodIn_app (goodIn_of _ (by decide +kernel)) ggL_law_X12_pairs
set_option maxRecDepth 20000 in
theorem ggL_law_X11_meet : GoodIn wsL_law wsX11_meet := goodIn_r _ [793, 19, 794, 795, 32, 796, 797, 374, 375, 376, 18, 377, 354, 798, 799, 800, 31, 801, 802, 102, 103, 803, 804, 107, 805, 806, 807, 808, 809, 104, 810, 699, 700, 701, 811, 812, 638, 813, 814, 815, 816, 817, 818, 819, 820, 821, 822, 823, 352, 556, 557, 558, 559, 57, 58, 824, 825, 565, 566, 567, 826, 827, 828, 1025, 1026, 1027, 1028, 1029, 1030, 1031, 1032, 1033, 1115, 1116, 1117, 1118, 1119, 1120, 1121, 1122, 1085, 1086, 1087, 1088, 1089, 1090, 1091, 1092, 1093, 1094, 1095, 1096, 1097, 1098, 1099, 1100, 1101, 1102] (by decide +kernel) (by decide +kernel)
set_option maxRecDepth 20000 in
theorem gL_law_X11_meet : GoodIn wsL_law (wsV RL 82 RX11 yX11_meet wsX11_meet) := goodIn_app (goodIn_of _ (by decide +kernel)) ggL_law_X11_meet
set_option maxRecDepth 20000 in
theorem ggL_law_X12_meet : GoodIn wsL_law wsX12_meet := goodIn_r _ [832, 833, 834, 446, 447, 448, 5, 449, 366, 160, 161, 162, 835, 836, 837, 838, 132, 118, 839, 364, 840, 841, 842, 843, 133, 844, 365, 845, 846, 847, 848, 572, 573, 574, 575, 112, 113, 580, 581, 582, 583, 849, 850, 851, 1034, 1035, 1036, 1037, 1038, 1039, 1040, 1041, 1042, 1043, 1044, 1045, 1046, 1047, 1048, 1049, 1050, 1051, 1052, 1053, 1054, 1055, 1056, 1057, 1058, 1059, 1060, 1061, 1062, 1063, 1064, 1065, 1066, 1067, 1068, 1069, 1070, 1071, 1072, 1073, 1074, 1075, 1076, 1077, 1078, 1079, 1080, 1081, 1082] (by decide +kernel) (by decide +kernel)
set_option maxRecDepth 20000 in
theorem gL_law_X12_meet : GoodIn wsL_law (wsV RL 86 RX12 yX12_meet wsX12_meet) := goodIn_app (goodIn_of _ (by decide +kernel)) ggL_law_X12_meet
set_option maxRecDepth 20000 in
theorem ggL_law_X11_see : GoodIn wsL_law wsX11_see := goodIn_r _ [855, 19, 856, 529, 530, 531, 18, 532, 533, 375, 376, 377, 354, 534, 503, 504, 505, 352, 857, 858, 859, 860, 356, 65, 66, 67, 68, 1025, 1026, 1027, 1028, 1029, 1030, 1031, 1032, 1033, 1085, 1086, 1087, 1088, 1089, 1090, 1091, 1092, 1093, 1094, 1095, 1096, 1097, 1098, 1099, 1100, 1101, 1102] (by decide +kernel) (by decide +kernel)
set_option maxRecDepth 20000 in
theorem gL_law_X11_see : GoodIn wsL_law (wsV RL 87 RX11 yX11_see wsX11_see) := goodIn_app (goodIn_of _ (by decide +kernel)) ggL_law_X11_see
set_option maxRecDepth 20000 in
theorem ggL_law_X12_see : GoodIn wsL_law wsX12_see := goodIn_r _ [864, 369, 120, 121, 122, 123, 446, 447, 448, 5, 449, 366, 160, 161, 162, 517, 518, 519, 520, 365, 544, 545, 546, 547, 1034, 1035, 1036, 1037, 1038, 1039, 1040, 1041, 1042, 1043, 1044, 1045, 1046, 1047, 1048, 1049, 1050, 1051, 1052, 1053, 1054, 1055, 1056, 1057, 1058, 1059, 1060, 1061, 1062, 1063, 1064, 1065, 1066, 1067, 1068, 1069, 1070, 1071, 1072, 1073, 1074, 1075, 1076, 1077, 1078, 1079, 1080, 1081, 1082] (by decide +kernel) (by decide +kernel)
set_option maxRecDepth 20000 in
theorem gL_law_X12_see : GoodIn wsL_law (wsV RL 90 RX12 yX12_see wsX12_see) := goodIn_app (goodIn_of _ (by decide +kernel)) ggL_law_X12_see
set_option maxRecDepth 20000 in
theorem ggL_law_X11_forget : GoodIn wsL_law wsX11_forget := goodIn_r _ [868, 19, 856, 1025, 1026, 1027, 1028, 1029, 1030, 1031, 1032, 1033, 1085, 1086, 1087, 1088, 1089, 1090, 1091, 1092, 1093, 1094, 1095, 1096, 1097, 1098, 1099, 1100, 1101, 1102] (by decide +kernel) (by decide +kernel)
set_option maxRecDepth 20000 in
theorem gL_law_X11_forget : GoodIn wsL_law (wsV RL 91 RX11 yX11_forget wsX11_forget) := goodIn_app (goodIn_of _ (by decide +kernel)) ggL_law_X11_forget
set_option maxRecDepth 20000 in
theorem ggL_law_X12_forget : GoodIn wsL_law wsX12_forget := goodIn_r _ [872, 369, 1034, 1035, 1036, 1037, 1038, 1039, 1040, 1041, 1042, 1043, 1044, 1045, 1046, 1047, 1048, 1049, 1050, 1051, 1052, 1053, 1054, 1055, 1056, 1057, 1058, 1059, 1060, 1061, 1062, 1063, 1064, 1065, 1066, 1067, 1068, 1069, 1070, 1071, 1072, 1073, 1074, 1075, 1076, 1077, 1078, 1079, 1080, 1081, 1082] (by decide +kernel) (by decide +kernel)
set_option maxRecDepth 20000 in
theorem gL_law_X12_forget : GoodIn wsL_law (wsV RL 94 RX12 yX12_forget wsX12_forget) := goodIn_app (goodIn_of _ (by decide +kernel)) ggL_law_X12_forget
set_option maxRecDepth 20000 in
theorem ggL_law_X11_days : GoodIn wsL_law wsX11_days := goodIn_r _ [876, 19, 32, 877, 878, 688, 689, 690, 18, 691, 350, 879, 880, 881, 31, 882, 106, 883, 884, 885, 886, 887, 888, 352, 354, 355, 356, 57, 889, 699, 700, 701, 58, 59, 60, 61, 62, 63, 64, 65, 66, 67, 68, 890, 891, 892, 893, 894, 802, 895, 896, 897, 898, 899, 900, 901, 902, 903, 820, 821, 822, 823, 556, 557, 558, 559, 904, 905, 906, 907, 908, 561, 562, 563, 539, 400, 401, 402, 403, 404, 405, 406, 56, 407, 408, 409, 410, 411, 46, 412, 413, 414, 415, 43, 416, 417, 418, 419, 420, 55, 421, 422, 423, 424, 425, 49, 426, 427, 428, 429, 52, 430, 431, 432, 564, 565, 566, 567, 909, 910, 911, 912, 913, 914, 915, 916, 1025, 1026, 1027, 1028, 1029, 1030, 1031, 1032, 1033, 1115, 1116, 1117, 1118, 1119, 1120, 1121, 1122, 1085, 1086, 1087, 1088, 1089, 1090, 1091, 1092, 1093, 1094, 1095, 1096, 1097, 1098, 1099, 1100, 1101, 1102] (by decide +kernel) (by decide +kernel)
set_option maxRecDepth 20000 in
theorem gL_law_X11_days : GoodIn wsL_law (wsV RL 95 RX11 yX11_days wsX11_days) := goodIn_app (goodIn_of _ (by decide +kernel)) ggL_law_X11_days
set_option maxRecDepth 20000 in
theorem ggL_law_X12_days : GoodIn wsL_law wsX12_days := goodIn_r _ [920, 366, 160, 161, 5, 162, 921, 922, 923, 924, 134, 117, 135, 118, 925, 926, 927, 928, 929, 930, 931, 932, 933, 845, 846, 847, 848, 365, 572, 573, 574, 575, 112, 113, 934, 935, 936, 937, 466, 467, 468, 469, 114, 116, 115, 580, 581, 582, 583, 938, 939, 940, 941, 1034, 1035, 1036, 1037, 1038, 1039, 1040, 1041, 1042, 1043, 1044, 1045, 1046, 1047, 1048, 1049, 1050, 1051, 1052, 1053, 1054, 1055, 1056, 1057, 1058, 1059, 1060, 1061, 1062, 1063, 1064, 1065, 1066, 1067, 1068, 1069, 1070, 1071, 1072, 1073, 1074, 1075, 1076, 1077, 1078, 1079, 1080, 1081, 1082] (by decide +kernel) (by decide +kernel)
set_option maxRecDepth 20000 in
theorem gL_law_X12_days : GoodIn wsL_law (wsV RL 98 RX12 yX12_days wsX12_days) := goodIn_app (goodIn_of _ (by decide +kernel)) ggL_law_X12_days
set_option maxRecDepth 20000 in
theorem ggL_law_X11_image : GoodIn wsL_law wsX11_image := goodIn_r _ [945, 19, 20, 338, 386, 688, 689, 690, 18, 691, 350, 946, 886, 887, 888, 352, 354, 355, 356, 57, 889, 699, 700, 701, 58, 59, 60, 61, 62, 63, 64, 65, 66, 67, 68, 947, 948, 949, 950, 1025, 1026, 1027, 1028, 1029, 1030, 1031, 1032, 1033, 1085, 1086, 1087, 1088, 1089, 1090, 1091, 1092, 1093, 1094, 1095, 1096, 1097, 1098, 1099, 1100, 1101, 1102] (by decide +kernel) (by decide +kernel)
set_option maxRecDepth 20000 in
theorem gL_law_X11_image : GoodIn wsL_law (wsV RL 99 RX11 yX11_image wsX11_image) := goodIn_app (goodIn_of _ (by decide +kernel)) ggL_law_X11_image
set_option maxRecDepth 20000 in
theorem ggL_law_X12_image : GoodIn wsL_law wsX12_image := goodIn_r _ [954, 366, 955, 368, 956, 367, 957, 369, 958, 136, 114, 137, 116, 138, 117, 139, 118, 140, 119, 141, 120, 142, 121, 143, 122, 144, 123, 959, 960, 961, 5, 962, 1034, 1035, 1036, 1037, 1038, 1039, 1040, 1041, 1042, 1043, 1044, 1045, 1046, 1047, 1048, 1049, 1050, 1051, 1052, 1053, 1054, 1055, 1056, 1057, 1058, 1059, 1060, 1061, 1062, 1063, 1064, 1065, 1066, 1067, 1068, 1069, 1070, 1071, 1072, 1073, 1074, 1075, 1076, 1077, 1078, 1079, 1080, 1081, 1082] (by decide +kernel) (by decide +kernel)
set_option maxRecDepth 20000 in
theorem gL_law_X12_image : GoodIn wsL_law (wsV RL 102 RX12 yX12_image wsX12_image) := goodIn_app (goodIn_of _ (by decide +kernel)) ggL_law_X12_image
set_option maxRecDepth 20000 in
theorem ggL_law_X11_restore : GoodIn wsL_law wsX11_restore := goodIn_r _ [966, 338, 19, 20, 386, 946, 886, 887, 18, 888, 350, 352, 354, 355, 356, 57, 889, 699, 700, 701, 58, 59, 60, 61, 62, 63, 64, 65, 66, 67, 68, 947, 948, 949, 950, 1025, 1026, 1027, 1028, 1029, 1030, 1031, 1032, 1033, 1085, 1086, 1087, 1088, 1089, 1090, 1091, 1092, 1093, 1094, 1095, 1096, 1097, 1098, 1099, 1100, 1101, 1102] (by decide +kernel) (by decide +kernel)
set_option maxRecDepth 20000 in
theorem gL_law_X11_restore : GoodIn wsL_law (wsV RL 103 RX11 yX11_restore wsX11_restore) := goodIn_app (goodIn_of _ (by decide +kernel)) ggL_law_X11_restore
set_option maxRecDepth 20000 in
theorem ggL_law_X12_restore : GoodIn wsL_law wsX12_restore := goodIn_r _ [970, 955, 956, 368, 957, 367, 958, 369, 114, 136, 116, 137, 117, 138, 118, 139, 119, 140, 120, 141, 121, 142, 122, 143, 123, 144, 959, 960, 961, 5, 962, 366, 1034, 1035, 1036, 1037, 1038, 1039, 1040, 1041, 1042, 1043, 1044, 1045, 1046, 1047, 1048, 1049, 1050, 1051, 1052, 1053, 1054, 1055, 1056, 1057, 1058, 1059, 1060, 1061, 1062, 1063, 1064, 1065, 1066, 1067, 1068, 1069, 1070, 1071, 1072, 1073, 1074, 1075, 1076, 1077, 1078, 1079, 1080, 1081, 1082] (by decide +kernel) (by decide +kernel)
set_option maxRecDepth 20000 in
theorem gL_law_X12_restore : GoodIn wsL_law (wsV RL 106 RX12 yX12_restore wsX12_restore) := goodIn_app (goodIn_of _ (by decide +kernel)) ggL_law_X12_restore
set_option maxRecDepth 20000 in
theorem ggL_law_X11_count : GoodIn wsL_law wsX11_count := goodIn_r _ [974, 19, 975, 976, 340, 383, 384, 386, 977, 856, 15, 149, 339, 687, 947, 948, 949, 18, 950, 354, 978, 914, 915, 916, 63, 1025, 1026, 1027, 1028, 1029, 1030, 1031, 1032, 1033, 1085, 1086, 1087, 1088, 1089, 1090, 1091, 1092, 1093, 1094, 1095, 1096, 1097, 1098, 1099, 1100, 1101, 1102, 1083, 1084] (by decide +kernel) (by decide +kernel)
set_option maxRecDepth 20000 in
theorem gL_law_X11_count : GoodIn wsL_law (wsV RL 107 RX11 yX11_count wsX11_count) := goodIn_app (goodIn_of _ (by decide +kernel)) ggL_law_X11_count
set_option maxRecDepth 20000 in
theorem ggL_law_X12_count : GoodIn wsL_law wsX12_count := goodIn_r _ [982, 983, 984, 985, 5, 986, 364, 365, 366, 367, 369, 159, 368, 719, 987, 988, 989, 990, 116, 117, 959, 960, 961, 962, 119, 938, 939, 940, 941, 118, 1034, 1035, 1036, 1037, 1038, 1039, 1040, 1041, 1042, 1043, 1044, 1045, 1046, 1047, 1048, 1049, 1050, 1051, 1052, 1053, 1054, 1055, 1056, 1057, 1058, 1059, 1060, 1061, 1062, 1063, 1064, 1065, 1066, 1067, 1068, 1069, 1070, 1071, 1072, 1073, 1074, 1075, 1076, 1077, 1078, 1079, 1080, 1081, 1082] (by decide +kernel) (by decide +kernel)
set_option maxRecDepth 20000 in
theorem gL_law_X12_count : GoodIn wsL_law (wsV RL 110 RX12 yX12_count wsX12_count) := goodIn_app (goodIn_of _ (by decide +kernel)) ggL_law_X12_count
