set_option maxRecDepth 20000 in
theorem wL_28 : ∀ w ∈ wsL_law_r28, w ∈ lw_tbl := fun w h => (goodIn_p (big := lw_tbl) wsL_law_r28 [669, 673, 677, 1156, 1160, 1164] (by decide +kernel) (by decide +kernel) w h).1
set_option maxRecDepth 20000 in
theorem wL_29 : ∀ w ∈ wsL_law_r29, w ∈ lw_tbl := fun w h => (goodIn_p (big := lw_tbl) wsL_law_r29 [1168, 1172, 1176, 683, 687, 691] (by decide +kernel) (by decide +kernel) w h).1
set_option maxRecDepth 20000 in
theorem wL_30 : ∀ w ∈ wsL_law_r30, w ∈ lw_tbl := fun w h => (goodIn_p (big := lw_tbl) wsL_law_r30 [698, 702, 706, 1180] (by decide +kernel) (by decide +kernel) w h).1
set_option maxRecDepth 20000 in
theorem wL_31 : ∀ w ∈ wsL_law_r31, w ∈ lw_tbl := fun w h => (goodIn_p (big := lw_tbl) wsL_law_r31 [1184, 1188, 1192, 711, 715] (by decide +kernel) (by decide +kernel) w h).1
set_option maxRecDepth 20000 in
theorem wL_32 : ∀ w ∈ wsL_law_r32, w ∈ lw_tbl := fun w h => (goodIn_p (big := lw_tbl) wsL_law_r32 [721, 725, 729, 735] (by decide +kernel) (by decide +kernel) w h).1
set_option maxRecDepth 20000 in
theorem wL_33 : ∀ w ∈ wsL_law_r33, w ∈ lw_tbl := fun w h => (goodIn_p (big := lw_tbl) wsL_law_r33 [1196, 1200, 1204, 1208, 1212, 1216] (by decide +kernel) (by decide +kernel) w h).1
set_option maxRecDepth 20000 in
theorem wL_34 : ∀ w ∈ wsL_law_r34, w ∈ lw_tbl := fun w h => (goodIn_p (big := lw_tbl) wsL_law_r34 [740, 746, 750, 753] (by decide +kernel) (by decide +kernel) w h).1
set_option maxRecDepth 20000 in
theorem wL_35 : ∀ w ∈ wsL_law_r35, w ∈ lw_tbl := fun w h => (goodIn_p (big := lw_tbl) wsL_law_r35 [757, 761, 769, 1220, 1225] (by decide +kernel) (by decide +kernel) w h).1
set_option maxRecDepth 20000 in
theorem wL_36 : ∀ w ∈ wsL_law_r36, w ∈ lw_tbl := fun w h => (goodIn_p (big := lw_tbl) wsL_law_r36 [1229, 1233, 1238, 773, 777] (by decide +kernel) (by decide +kernel) w h).1
