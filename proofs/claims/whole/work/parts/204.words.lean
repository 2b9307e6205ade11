set_option maxRecDepth 20000 in
theorem wsL_in_21 : ∀ w ∈ wsL_law_r21, w ∈ lw_tbl := fun w h => (goodIn_p wsL_law_r21 [471, 478, 482, 486, 967] (by decide +kernel) (by decide +kernel) w h).1
set_option maxRecDepth 20000 in
theorem wsL_in_22 : ∀ w ∈ wsL_law_r22, w ∈ lw_tbl := fun w h => (goodIn_p wsL_law_r22 [490, 494, 498, 503, 508] (by decide +kernel) (by decide +kernel) w h).1
set_option maxRecDepth 20000 in
theorem wsL_in_23 : ∀ w ∈ wsL_law_r23, w ∈ lw_tbl := fun w h => (goodIn_p wsL_law_r23 [512, 516, 521, 525, 971] (by decide +kernel) (by decide +kernel) w h).1
set_option maxRecDepth 20000 in
theorem wsL_in_24 : ∀ w ∈ wsL_law_r24, w ∈ lw_tbl := fun w h => (goodIn_p wsL_law_r24 [975, 530, 534, 979, 983, 540] (by decide +kernel) (by decide +kernel) w h).1
set_option maxRecDepth 20000 in
theorem wsL_in_25 : ∀ w ∈ wsL_law_r25, w ∈ lw_tbl := fun w h => (goodIn_p wsL_law_r25 [544, 549, 553, 557, 987, 561] (by decide +kernel) (by decide +kernel) w h).1
set_option maxRecDepth 20000 in
theorem wsL_in_26 : ∀ w ∈ wsL_law_r26, w ∈ lw_tbl := fun w h => (goodIn_p wsL_law_r26 [565, 570, 991, 575, 582] (by decide +kernel) (by decide +kernel) w h).1
set_option maxRecDepth 20000 in
theorem wsL_in_27 : ∀ w ∈ wsL_law_r27, w ∈ lw_tbl := fun w h => (goodIn_p wsL_law_r27 [579, 995, 586, 590, 999, 594] (by decide +kernel) (by decide +kernel) w h).1
set_option maxRecDepth 20000 in
theorem wsL_in_28 : ∀ w ∈ wsL_law_r28, w ∈ lw_tbl := fun w h => (goodIn_p wsL_law_r28 [599, 1003, 604, 608, 1009] (by decide +kernel) (by decide +kernel) w h).1
set_option maxRecDepth 20000 in
theorem wsL_in_29 : ∀ w ∈ wsL_law_r29, w ∈ lw_tbl := fun w h => (goodIn_p wsL_law_r29 [1014, 612, 616, 621, 626] (by decide +kernel) (by decide +kernel) w h).1
set_option maxRecDepth 20000 in
theorem wsL_in_30 : ∀ w ∈ wsL_law_r30, w ∈ lw_tbl := fun w h => (goodIn_p wsL_law_r30 [629, 633, 636, 1018, 1024, 1028] (by decide +kernel) (by decide +kernel) w h).1
set_option maxRecDepth 20000 in
theorem wsL_in_31 : ∀ w ∈ wsL_law_r31, w ∈ lw_tbl := fun w h => (goodIn_p wsL_law_r31 [641, 644, 1032, 1035, 648, 1039] (by decide +kernel) (by decide +kernel) w h).1
set_option maxRecDepth 20000 in
theorem wsL_in_32 : ∀ w ∈ wsL_law_r32, w ∈ lw_tbl := fun w h => (goodIn_p wsL_law_r32 [1042, 1045, 656, 660, 664, 1049] (by decide +kernel) (by decide +kernel) w h).1
set_option maxRecDepth 20000 in
theorem wsL_in_33 : ∀ w ∈ wsL_law_r33, w ∈ lw_tbl := fun w h => (goodIn_p wsL_law_r33 [668, 672, 1053, 1056, 676] (by decide +kernel) (by decide +kernel) w h).1
set_option maxRecDepth 20000 in
theorem wsL_in_34 : ∀ w ∈ wsL_law_r34, w ∈ lw_tbl := fun w h => (goodIn_p wsL_law_r34 [680, 685, 692, 1062, 1066] (by decide +kernel) (by decide +kernel) w h).1
set_option maxRecDepth 20000 in
theorem wsL_in_35 : ∀ w ∈ wsL_law_r35, w ∈ lw_tbl := fun w h => (goodIn_p wsL_law_r35 [1069, 696, 700, 704, 1073, 708] (by decide +kernel) (by decide +kernel) w h).1
set_option maxRecDepth 20000 in
theorem wsL_in_36 : ∀ w ∈ wsL_law_r36, w ∈ lw_tbl := fun w h => (goodIn_p wsL_law_r36 [1077, 712, 716, 1082, 722, 726] (by decide +kernel) (by decide +kernel) w h).1
set_option maxRecDepth 20000 in
theorem wsL_in_37 : ∀ w ∈ wsL_law_r37, w ∈ lw_tbl := fun w h => (goodIn_p wsL_law_r37 [1086, 733, 738, 1090, 742] (by decide +kernel) (by decide +kernel) w h).1
set_option maxRecDepth 20000 in
theorem wsL_in_38 : ∀ w ∈ wsL_law_r38, w ∈ lw_tbl := fun w h => (goodIn_p wsL_law_r38 [746, 1094, 750, 754, 759] (by decide +kernel) (by decide +kernel) w h).1
set_option maxRecDepth 20000 in
theorem wsL_in_39 : ∀ w ∈ wsL_law_r39, w ∈ lw_tbl := fun w h => (goodIn_p wsL_law_r39 [1098] (by decide +kernel) (by decide +kernel) w h).1
set_option maxRecDepth 20000 in
theorem inX8 : ∀ w ∈ wsX80, w ∈ lw_tbl := by decide +kernel
set_option maxRecDepth 20000 in
theorem inX9 : ∀ w ∈ wsX90, w ∈ lw_tbl := by decide +kernel
set_option maxRecDepth 20000 in
theorem inX0 : ∀ w ∈ wsX00, w ∈ lw_tbl := by decide +kernel
set_option maxRecDepth 20000 in
theorem inX4 : ∀ w ∈ wsX40, w ∈ lw_tbl := by decide +kernel
set_option maxRecDepth 20000 in
theorem inX6 : ∀ w ∈ wsX60, w ∈ lw_tbl := by decide +kernel
set_option maxRecDepth 20000 in
theorem inX7 : ∀ w ∈ wsX70, w ∈ lw_tbl := by decide +kernel
set_option maxRecDepth 20000 in
theorem inX2 : ∀ w ∈ wsX20, w ∈ lw_tbl := by decide +kernel
set_option maxRecDepth 20000 in
theorem inX1 : ∀ w ∈ wsX10, w ∈ lw_tbl := by decide +kernel
set_option maxRecDepth 20000 in
theorem inX5 : ∀ w ∈ wsX50, w ∈ lw_tbl := by decide +kernel
theorem wsL_law_in : ∀ w ∈ wsL_law, w ∈ lw_tbl := List.forall_mem_append.mpr ⟨(List.forall_mem_append.mpr ⟨(List.forall_mem_append.mpr ⟨(List.forall_mem_append.mpr ⟨(List.forall_mem_append.mpr ⟨(List.forall_mem_append.mpr ⟨(List.forall_mem_append.mpr ⟨(List.forall_mem_append.mpr ⟨(List.forall_mem_append.mpr ⟨(List.forall_mem_append.mpr ⟨(List.forall_mem_append.mpr ⟨wsL_in_1, List.forall_mem_append.mpr ⟨wsL_in_2, List.forall_mem_append.mpr ⟨wsL_in_3, List.forall_mem_append.mpr ⟨wsL_in_4, List.forall_mem_append.mpr ⟨wsL_in_5, List.forall_mem_append.mpr ⟨wsL_in_6, List.forall_mem_append.mpr ⟨wsL_in_7, List.forall_mem_append.mpr ⟨wsL_in_8, List.forall_mem_append.mpr ⟨wsL_in_9, List.forall_mem_append.mpr ⟨wsL_in_10, List.forall_mem_append.mpr ⟨wsL_in_11, List.forall_mem_append.mpr ⟨wsL_in_12, List.forall_mem_append.mpr ⟨wsL_in_13, List.forall_mem_append.mpr ⟨wsL_in_14, List.forall_mem_append.mpr ⟨wsL_in_15, List.forall_mem_append.mpr ⟨wsL_in_16, List.forall_mem_append.mpr ⟨wsL_in_17, List.forall_mem_append.mpr ⟨wsL_in_18, List.forall_mem_append.mpr ⟨wsL_in_19, List.forall_mem_append.mpr ⟨wsL_in_20, List.forall_mem_append.mpr ⟨wsL_in_21, List.forall_mem_append.mpr ⟨wsL_in_22, List.forall_mem_append.mpr ⟨wsL_in_23, List.forall_mem_append.mpr ⟨wsL_in_24, List.forall_mem_append.mpr ⟨wsL_in_25, List.forall_mem_append.mpr ⟨wsL_in_26, List.forall_mem_append.mpr ⟨wsL_in_27, List.forall_mem_append.mpr ⟨wsL_in_28, List.forall_mem_append.mpr ⟨wsL_in_29, List.forall_mem_append.mpr ⟨wsL_in_30, List.forall_mem_append.mpr ⟨wsL_in_31, List.forall_mem_append.mpr ⟨wsL_in_32, List.forall_mem_append.mpr ⟨wsL_in_33, List.forall_mem_append.mpr ⟨wsL_in_34, List.forall_mem_append.mpr ⟨wsL_in_35, List.forall_mem_append.mpr ⟨wsL_in_36, List.forall_mem_append.mpr ⟨wsL_in_37, List.forall_mem_append.mpr ⟨wsL_in_38, wsL_in_39⟩⟩⟩⟩⟩⟩⟩⟩⟩⟩⟩⟩⟩⟩⟩⟩⟩⟩⟩⟩⟩⟩⟩⟩⟩⟩⟩⟩⟩⟩⟩⟩⟩⟩⟩⟩⟩⟩), inX8⟩), inX9⟩), inX0⟩), inX4⟩), inX6⟩), inX7⟩), inX2⟩), inX1⟩), inX5⟩), fun _ h => absurd h List.not_mem_nil⟩
