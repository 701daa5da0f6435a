set_option maxRecDepth 20000 in
theorem wL_19 : ∀ w ∈ wsL_law_r19, w ∈ lw_tbl := fun w h => (goodIn_p (big := lw_tbl) wsL_law_r19 [562, 565, 1060, 1064, 1068] (by decide +kernel) (by decide +kernel) w h).1
set_option maxRecDepth 20000 in
theorem wL_20 : ∀ w ∈ wsL_law_r20, w ∈ lw_tbl := fun w h => (goodIn_p (big := lw_tbl) wsL_law_r20 [1072, 1076, 1080, 1084, 1088, 1093] (by decide +kernel) (by decide +kernel) w h).1
set_option maxRecDepth 20000 in
theorem wL_21 : ∀ w ∈ wsL_law_r21, w ∈ lw_tbl := fun w h => (goodIn_p (big := lw_tbl) wsL_law_r21 [1096, 570, 574, 1100, 582] (by decide +kernel) (by decide +kernel) w h).1
set_option maxRecDepth 20000 in
theorem wL_22 : ∀ w ∈ wsL_law_r22, w ∈ lw_tbl := fun w h => (goodIn_p (big := lw_tbl) wsL_law_r22 [586, 590, 1104, 1108, 1112] (by decide +kernel) (by decide +kernel) w h).1
set_option maxRecDepth 20000 in
theorem wL_23 : ∀ w ∈ wsL_law_r23, w ∈ lw_tbl := fun w h => (goodIn_p (big := lw_tbl) wsL_law_r23 [594, 598, 604, 1116, 1120, 609] (by decide +kernel) (by decide +kernel) w h).1
set_option maxRecDepth 20000 in
theorem wL_24 : ∀ w ∈ wsL_law_r24, w ∈ lw_tbl := fun w h => (goodIn_p (big := lw_tbl) wsL_law_r24 [613, 617, 621, 625, 1124, 1128] (by decide +kernel) (by decide +kernel) w h).1
set_option maxRecDepth 20000 in
theorem wL_25 : ∀ w ∈ wsL_law_r25, w ∈ lw_tbl := fun w h => (goodIn_p (big := lw_tbl) wsL_law_r25 [1132, 1136, 629, 1140, 633, 1144] (by decide +kernel) (by decide +kernel) w h).1
set_option maxRecDepth 20000 in
theorem wL_26 : ∀ w ∈ wsL_law_r26, w ∈ lw_tbl := fun w h => (goodIn_p (big := lw_tbl) wsL_law_r26 [637, 1148, 641, 1152, 645, 649] (by decide +kernel) (by decide +kernel) w h).1
set_option maxRecDepth 20000 in
theorem wL_27 : ∀ w ∈ wsL_law_r27, w ∈ lw_tbl := fun w h => (goodIn_p (big := lw_tbl) wsL_law_r27 [653, 657, 660, 664] (by decide +kernel) (by decide +kernel) w h).1
