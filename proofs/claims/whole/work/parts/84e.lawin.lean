set_option maxRecDepth 20000 in
theorem wL_37 : ∀ w ∈ wsL_law_r37, w ∈ lw_tbl := fun w h => (goodIn_p (big := lw_tbl) wsL_law_r37 [1243, 781, 1247, 785, 789] (by decide +kernel) (by decide +kernel) w h).1
set_option maxRecDepth 20000 in
theorem wL_38 : ∀ w ∈ wsL_law_r38, w ∈ lw_tbl := fun w h => (goodIn_p (big := lw_tbl) wsL_law_r38 [793, 798, 802, 810] (by decide +kernel) (by decide +kernel) w h).1
set_option maxRecDepth 20000 in
theorem wL_39 : ∀ w ∈ wsL_law_r39, w ∈ lw_tbl := fun w h => (goodIn_p (big := lw_tbl) wsL_law_r39 [815, 819, 1251, 1255, 1259] (by decide +kernel) (by decide +kernel) w h).1
set_option maxRecDepth 20000 in
theorem wL_40 : ∀ w ∈ wsL_law_r40, w ∈ lw_tbl := fun w h => (goodIn_p (big := lw_tbl) wsL_law_r40 [1267, 1271, 823, 828, 1275] (by decide +kernel) (by decide +kernel) w h).1
set_option maxRecDepth 20000 in
theorem wL_41 : ∀ w ∈ wsL_law_r41, w ∈ lw_tbl := fun w h => (goodIn_p (big := lw_tbl) wsL_law_r41 [1279, 832, 1283, 836, 1287] (by decide +kernel) (by decide +kernel) w h).1
set_option maxRecDepth 20000 in
theorem wL_42 : ∀ w ∈ wsL_law_r42, w ∈ lw_tbl := fun w h => (goodIn_p (big := lw_tbl) wsL_law_r42 [1291, 1295, 841, 845, 850, 854] (by decide +kernel) (by decide +kernel) w h).1
set_option maxRecDepth 20000 in
theorem wL_43 : ∀ w ∈ wsL_law_r43, w ∈ lw_tbl := fun w h => (goodIn_p (big := lw_tbl) wsL_law_r43 [1299, 1304, 1308] (by decide +kernel) (by decide +kernel) w h).1
set_option maxRecDepth 20000 in
theorem wL_wsX110 : ∀ w ∈ wsX110, w ∈ lw_tbl := fun w h => (goodIn_of (big := lw_tbl) wsX110 (by decide +kernel) w h).1
set_option maxRecDepth 20000 in
theorem wL_wsX120 : ∀ w ∈ wsX120, w ∈ lw_tbl := fun w h => (goodIn_of (big := lw_tbl) wsX120 (by decide +kernel) w h).1
set_option maxRecDepth 20000 in
theorem wL_wsX50 : ∀ w ∈ wsX50, w ∈ lw_tbl := fun w h => (goodIn_of (big := lw_tbl) wsX50 (by decide +kernel) w h).1
set_option maxRecDepth 20000 in
theorem wL_wsX20 : ∀ w ∈ wsX20, w ∈ lw_tbl := fun w h => (goodIn_of (big := lw_tbl) wsX20 (by decide +kernel) w h).1
set_option maxRecDepth 20000 in
theorem wL_wsX90 : ∀ w ∈ wsX90, w ∈ lw_tbl := fun w h => (goodIn_of (big := lw_tbl) wsX90 (by decide +kernel) w h).1
set_option maxRecDepth 20000 in
theorem wL_wsX60 : ∀ w ∈ wsX60, w ∈ lw_tbl := fun w h => (goodIn_of (big := lw_tbl) wsX60 (by decide +kernel) w h).1
set_option maxRecDepth 20000 in
theorem wL_wsX80 : ∀ w ∈ wsX80, w ∈ lw_tbl := fun w h => (goodIn_of (big := lw_tbl) wsX80 (by decide +kernel) w h).1
set_option maxRecDepth 20000 in
theorem wL_wsX10 : ∀ w ∈ wsX10, w ∈ lw_tbl := fun w h => (goodIn_of (big := lw_tbl) wsX10 (by decide +kernel) w h).1
set_option maxRecDepth 20000 in
theorem wL_wsX00 : ∀ w ∈ wsX00, w ∈ lw_tbl := fun w h => (goodIn_of (big := lw_tbl) wsX00 (by decide +kernel) w h).1
set_option maxRecDepth 20000 in
theorem wL_wsX40 : ∀ w ∈ wsX40, w ∈ lw_tbl := fun w h => (goodIn_of (big := lw_tbl) wsX40 (by decide +kernel) w h).1
set_option maxRecDepth 20000 in
theorem wL_wsX100 : ∀ w ∈ wsX100, w ∈ lw_tbl := fun w h => (goodIn_of (big := lw_tbl) wsX100 (by decide +kernel) w h).1
set_option maxRecDepth 20000 in
theorem wL_wsX30 : ∀ w ∈ wsX30, w ∈ lw_tbl := fun w h => (goodIn_of (big := lw_tbl) wsX30 (by decide +kernel) w h).1
theorem wsL_law_in : ∀ w ∈ wsL_law, w ∈ lw_tbl := (List.forall_mem_append.mpr ⟨(List.forall_mem_append.mpr ⟨(List.forall_mem_append.mpr ⟨(List.forall_mem_append.mpr ⟨(List.forall_mem_append.mpr ⟨(List.forall_mem_append.mpr ⟨(List.forall_mem_append.mpr ⟨(List.forall_mem_append.mpr ⟨(List.forall_mem_append.mpr ⟨(List.forall_mem_append.mpr ⟨(List.forall_mem_append.mpr ⟨(List.forall_mem_append.mpr ⟨(List.forall_mem_append.mpr ⟨(List.forall_mem_append.mpr ⟨wL_1, List.forall_mem_append.mpr ⟨wL_2, List.forall_mem_append.mpr ⟨wL_3, List.forall_mem_append.mpr ⟨wL_4, List.forall_mem_append.mpr ⟨wL_5, List.forall_mem_append.mpr ⟨wL_6, List.forall_mem_append.mpr ⟨wL_7, List.forall_mem_append.mpr ⟨wL_8, List.forall_mem_append.mpr ⟨wL_9, List.forall_mem_append.mpr ⟨wL_10, List.forall_mem_append.mpr ⟨wL_11, List.forall_mem_append.mpr ⟨wL_12, List.forall_mem_append.mpr ⟨wL_13, List.forall_mem_append.mpr ⟨wL_14, List.forall_mem_append.mpr ⟨wL_15, List.forall_mem_append.mpr ⟨wL_16, List.forall_mem_append.mpr ⟨wL_17, List.forall_mem_append.mpr ⟨wL_18, List.forall_mem_append.mpr ⟨wL_19, List.forall_mem_append.mpr ⟨wL_20, List.forall_mem_append.mpr ⟨wL_21, List.forall_mem_append.mpr ⟨wL_22, List.forall_mem_append.mpr ⟨wL_23, List.forall_mem_append.mpr ⟨wL_24, List.forall_mem_append.mpr ⟨wL_25, List.forall_mem_append.mpr ⟨wL_26, List.forall_mem_append.mpr ⟨wL_27, List.forall_mem_append.mpr ⟨wL_28, List.forall_mem_append.mpr ⟨wL_29, List.forall_mem_append.mpr ⟨wL_30, List.forall_mem_append.mpr ⟨wL_31, List.forall_mem_append.mpr ⟨wL_32, List.forall_mem_append.mpr ⟨wL_33, List.forall_mem_append.mpr ⟨wL_34, List.forall_mem_append.mpr ⟨wL_35, List.forall_mem_append.mpr ⟨wL_36, List.forall_mem_append.mpr ⟨wL_37, List.forall_mem_append.mpr ⟨wL_38, List.forall_mem_append.mpr ⟨wL_39, List.forall_mem_append.mpr ⟨wL_40, List.forall_mem_append.mpr ⟨wL_41, List.forall_mem_append.mpr ⟨wL_42, wL_43⟩⟩⟩⟩⟩⟩⟩⟩⟩⟩⟩⟩⟩⟩⟩⟩⟩⟩⟩⟩⟩⟩⟩⟩⟩⟩⟩⟩⟩⟩⟩⟩⟩⟩⟩⟩⟩⟩⟩⟩⟩⟩), wL_wsX110⟩), wL_wsX120⟩), wL_wsX50⟩), wL_wsX20⟩), wL_wsX90⟩), wL_wsX60⟩), wL_wsX80⟩), wL_wsX10⟩), wL_wsX00⟩), wL_wsX40⟩), wL_wsX100⟩), wL_wsX30⟩), fun w h => absurd h (by simp)⟩)
