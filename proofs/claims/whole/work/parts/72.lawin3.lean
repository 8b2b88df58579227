/-! the words of the law stand in its tables -/
set_option maxRecDepth 20000 in
theorem lin_31 : ∀ w ∈ wsL_law_r31, w ∈ lw_tbl := fun w h => (goodIn_p wsL_law_r31 [644, 1163, 649, 653, 1167, 1171] (by decide +kernel) (by decide +kernel) w h).1
set_option maxRecDepth 20000 in
theorem lin_32 : ∀ w ∈ wsL_law_r32, w ∈ lw_tbl := fun w h => (goodIn_p wsL_law_r32 [657, 1175, 661, 664, 668] (by decide +kernel) (by decide +kernel) w h).1
set_option maxRecDepth 20000 in
theorem lin_33 : ∀ w ∈ wsL_law_r33, w ∈ lw_tbl := fun w h => (goodIn_p wsL_law_r33 [1179, 1182, 1186, 673, 677, 680, 1190] (by decide +kernel) (by decide +kernel) w h).1
set_option maxRecDepth 20000 in
theorem lin_34 : ∀ w ∈ wsL_law_r34, w ∈ lw_tbl := fun w h => (goodIn_p wsL_law_r34 [1194, 1198, 684, 1202, 688, 1206] (by decide +kernel) (by decide +kernel) w h).1
set_option maxRecDepth 20000 in
theorem lin_35 : ∀ w ∈ wsL_law_r35, w ∈ lw_tbl := fun w h => (goodIn_p wsL_law_r35 [692, 696, 1211, 1215, 700] (by decide +kernel) (by decide +kernel) w h).1
set_option maxRecDepth 20000 in
theorem lin_36 : ∀ w ∈ wsL_law_r36, w ∈ lw_tbl := fun w h => (goodIn_p wsL_law_r36 [1220, 704, 1224, 708, 1244, 1240] (by decide +kernel) (by decide +kernel) w h).1
set_option maxRecDepth 20000 in
theorem lin_37 : ∀ w ∈ wsL_law_r37, w ∈ lw_tbl := fun w h => (goodIn_p wsL_law_r37 [1247, 714, 718, 1228, 724] (by decide +kernel) (by decide +kernel) w h).1
set_option maxRecDepth 20000 in
theorem lin_38 : ∀ w ∈ wsL_law_r38, w ∈ lw_tbl := fun w h => (goodIn_p wsL_law_r38 [728, 1232, 732, 1236, 736, 739] (by decide +kernel) (by decide +kernel) w h).1
set_option maxRecDepth 20000 in
theorem lin_39 : ∀ w ∈ wsL_law_r39, w ∈ lw_tbl := fun w h => (goodIn_p wsL_law_r39 [743, 747, 751, 1251, 1254, 755] (by decide +kernel) (by decide +kernel) w h).1
set_option maxRecDepth 20000 in
theorem lin_40 : ∀ w ∈ wsL_law_r40, w ∈ lw_tbl := fun w h => (goodIn_p wsL_law_r40 [759, 762, 1258, 1263, 1266] (by decide +kernel) (by decide +kernel) w h).1
set_option maxRecDepth 20000 in
theorem lin_41 : ∀ w ∈ wsL_law_r41, w ∈ lw_tbl := fun w h => (goodIn_p wsL_law_r41 [768, 772, 776, 783] (by decide +kernel) (by decide +kernel) w h).1
set_option maxRecDepth 20000 in
theorem lin_42 : ∀ w ∈ wsL_law_r42, w ∈ lw_tbl := fun w h => (goodIn_p wsL_law_r42 [787, 1270, 1274, 1278, 1282] (by decide +kernel) (by decide +kernel) w h).1
set_option maxRecDepth 20000 in
theorem lin_43 : ∀ w ∈ wsL_law_r43, w ∈ lw_tbl := fun w h => (goodIn_p wsL_law_r43 [1286, 1290, 1294, 1298, 1302, 1306] (by decide +kernel) (by decide +kernel) w h).1
set_option maxRecDepth 20000 in
theorem lin_44 : ∀ w ∈ wsL_law_r44, w ∈ lw_tbl := fun w h => (goodIn_p wsL_law_r44 [1310, 791, 1314, 795, 799] (by decide +kernel) (by decide +kernel) w h).1
set_option maxRecDepth 20000 in
theorem lin_45 : ∀ w ∈ wsL_law_r45, w ∈ lw_tbl := fun w h => (goodIn_p wsL_law_r45 [804, 1318, 808, 1322, 812, 1326] (by decide +kernel) (by decide +kernel) w h).1
set_option maxRecDepth 20000 in
theorem lin_wsX00 : ∀ w ∈ wsX00, w ∈ lw_tbl := fun w h => (goodIn_p wsX00 [] (by decide +kernel) (by decide +kernel) w h).1
set_option maxRecDepth 20000 in
theorem lin_wsX10 : ∀ w ∈ wsX10, w ∈ lw_tbl := fun w h => (goodIn_p wsX10 [] (by decide +kernel) (by decide +kernel) w h).1
set_option maxRecDepth 20000 in
theorem lin_wsX20 : ∀ w ∈ wsX20, w ∈ lw_tbl := fun w h => (goodIn_p wsX20 [] (by decide +kernel) (by decide +kernel) w h).1
set_option maxRecDepth 20000 in
theorem lin_wsX30 : ∀ w ∈ wsX30, w ∈ lw_tbl := fun w h => (goodIn_p wsX30 [] (by decide +kernel) (by decide +kernel) w h).1
set_option maxRecDepth 20000 in
theorem lin_wsX40 : ∀ w ∈ wsX40, w ∈ lw_tbl := fun w h => (goodIn_p wsX40 [] (by decide +kernel) (by decide +kernel) w h).1
set_option maxRecDepth 20000 in
theorem lin_wsX50 : ∀ w ∈ wsX50, w ∈ lw_tbl := fun w h => (goodIn_p wsX50 [] (by decide +kernel) (by decide +kernel) w h).1
set_option maxRecDepth 20000 in
theorem lin_wsX60 : ∀ w ∈ wsX60, w ∈ lw_tbl := fun w h => (goodIn_p wsX60 [] (by decide +kernel) (by decide +kernel) w h).1
set_option maxRecDepth 20000 in
theorem wsL_law_in : ∀ w ∈ wsL_law, w ∈ lw_tbl := List.forall_mem_append.mpr ⟨List.forall_mem_append.mpr ⟨List.forall_mem_append.mpr ⟨List.forall_mem_append.mpr ⟨List.forall_mem_append.mpr ⟨List.forall_mem_append.mpr ⟨List.forall_mem_append.mpr ⟨List.forall_mem_append.mpr ⟨List.forall_mem_append.mpr ⟨lin_1, List.forall_mem_append.mpr ⟨lin_2, List.forall_mem_append.mpr ⟨lin_3, List.forall_mem_append.mpr ⟨lin_4, List.forall_mem_append.mpr ⟨lin_5, List.forall_mem_append.mpr ⟨lin_6, List.forall_mem_append.mpr ⟨lin_7, List.forall_mem_append.mpr ⟨lin_8, List.forall_mem_append.mpr ⟨lin_9, List.forall_mem_append.mpr ⟨lin_10, List.forall_mem_append.mpr ⟨lin_11, List.forall_mem_append.mpr ⟨lin_12, List.forall_mem_append.mpr ⟨lin_13, List.forall_mem_append.mpr ⟨lin_14, List.forall_mem_append.mpr ⟨lin_15, List.forall_mem_append.mpr ⟨lin_16, List.forall_mem_append.mpr ⟨lin_17, List.forall_mem_append.mpr ⟨lin_18, List.forall_mem_append.mpr ⟨lin_19, List.forall_mem_append.mpr ⟨lin_20, List.forall_mem_append.mpr ⟨lin_21, List.forall_mem_append.mpr ⟨lin_22, List.forall_mem_append.mpr ⟨lin_23, List.forall_mem_append.mpr ⟨lin_24, List.forall_mem_append.mpr ⟨lin_25, List.forall_mem_append.mpr ⟨lin_26, List.forall_mem_append.mpr ⟨lin_27, List.forall_mem_append.mpr ⟨lin_28, List.forall_mem_append.mpr ⟨lin_29, List.forall_mem_append.mpr ⟨lin_30, List.forall_mem_append.mpr ⟨lin_31, List.forall_mem_append.mpr ⟨lin_32, List.forall_mem_append.mpr ⟨lin_33, List.forall_mem_append.mpr ⟨lin_34, List.forall_mem_append.mpr ⟨lin_35, List.forall_mem_append.mpr ⟨lin_36, List.forall_mem_append.mpr ⟨lin_37, List.forall_mem_append.mpr ⟨lin_38, List.forall_mem_append.mpr ⟨lin_39, List.forall_mem_append.mpr ⟨lin_40, List.forall_mem_append.mpr ⟨lin_41, List.forall_mem_append.mpr ⟨lin_42, List.forall_mem_append.mpr ⟨lin_43, List.forall_mem_append.mpr ⟨lin_44, lin_45⟩⟩⟩⟩⟩⟩⟩⟩⟩⟩⟩⟩⟩⟩⟩⟩⟩⟩⟩⟩⟩⟩⟩⟩⟩⟩⟩⟩⟩⟩⟩⟩⟩⟩⟩⟩⟩⟩⟩⟩⟩⟩⟩⟩, lin_wsX50⟩, lin_wsX60⟩, lin_wsX40⟩, lin_wsX30⟩, lin_wsX00⟩, lin_wsX10⟩, lin_wsX20⟩, fun _ h => absurd h List.not_mem_nil⟩
theorem inlX0 : ∀ w ∈ wsX00, w ∈ wsL_law := fun _ h => List.mem_append_left _ (List.mem_append_left _ (List.mem_append_left _ (List.mem_append_right _ h)))
theorem inX0 : ∀ w ∈ wsX00, w ∈ lw_tbl := fun w h => wsL_law_in w (inlX0 w h)
theorem inlX1 : ∀ w ∈ wsX10, w ∈ wsL_law := fun _ h => List.mem_append_left _ (List.mem_append_left _ (List.mem_append_right _ h))
theorem inX1 : ∀ w ∈ wsX10, w ∈ lw_tbl := fun w h => wsL_law_in w (inlX1 w h)
theorem inlX2 : ∀ w ∈ wsX20, w ∈ wsL_law := fun _ h => List.mem_append_left _ (List.mem_append_right _ h)
theorem inX2 : ∀ w ∈ wsX20, w ∈ lw_tbl := fun w h => wsL_law_in w (inlX2 w h)
theorem inlX3 : ∀ w ∈ wsX30, w ∈ wsL_law := fun _ h => List.mem_append_left _ (List.mem_append_left _ (List.mem_append_left _ (List.mem_append_left _ (List.mem_append_right _ h))))
theorem inX3 : ∀ w ∈ wsX30, w ∈ lw_tbl := fun w h => wsL_law_in w (inlX3 w h)
theorem inlX4 : ∀ w ∈ wsX40, w ∈ wsL_law := fun _ h => List.mem_append_left _ (List.mem_append_left _ (List.mem_append_left _ (List.mem_append_left _ (List.mem_append_left _ (List.mem_append_right _ h)))))
theorem inX4 : ∀ w ∈ wsX40, w ∈ lw_tbl := fun w h => wsL_law_in w (inlX4 w h)
theorem inlX5 : ∀ w ∈ wsX50, w ∈ wsL_law := fun _ h => List.mem_append_left _ (List.mem_append_left _ (List.mem_append_left _ (List.mem_append_left _ (List.mem_append_left _ (List.mem_append_left _ (List.mem_append_left _ (List.mem_append_right _ h)))))))
theorem inX5 : ∀ w ∈ wsX50, w ∈ lw_tbl := fun w h => wsL_law_in w (inlX5 w h)
theorem inlX6 : ∀ w ∈ wsX60, w ∈ wsL_law := fun _ h => List.mem_append_left _ (List.mem_append_left _ (List.mem_append_left _ (List.mem_append_left _ (List.mem_append_left _ (List.mem_append_left _ (List.mem_append_right _ h))))))
theorem inX6 : ∀ w ∈ wsX60, w ∈ lw_tbl := fun w h => wsL_law_in w (inlX6 w h)
theorem inJ6 : ∀ w ∈ wsJ60, w ∈ lw_tbl := by decide +kernel
theorem inJ9 : ∀ w ∈ wsJ90, w ∈ lw_tbl := by decide +kernel
theorem inJ0 : ∀ w ∈ wsJ00, w ∈ lw_tbl := by decide +kernel
theorem inJ1 : ∀ w ∈ wsJ10, w ∈ lw_tbl := by decide +kernel
theorem inJ2 : ∀ w ∈ wsJ20, w ∈ lw_tbl := by decide +kernel
theorem inJ10 : ∀ w ∈ wsJ100, w ∈ lw_tbl := by decide +kernel
theorem inJ3 : ∀ w ∈ wsJ30, w ∈ lw_tbl := by decide +kernel
