theorem mem_p {big : List Cond} (ws : List Cond) (ps : List Nat) (hp : ws.filter k2_isCode = ps.filterMap (fun i => big[i]?)) (h : (ws.filter (fun w => !k2_isCode w)).all (fun w => decide (w ∈ big)) = true) : ∀ w ∈ ws, w ∈ big := by
  intro w hw
  by_cases hc : k2_isCode w = true
  · have h1 : w ∈ ws.filter k2_isCode := List.mem_filter.mpr ⟨hw, hc⟩
    rw [hp] at h1
    obtain ⟨i, -, hi⟩ := List.mem_filterMap.mp h1
    exact List.mem_of_getElem? hi
  · have h1 : w ∈ ws.filter (fun w => !k2_isCode w) := List.mem_filter.mpr ⟨hw, by simp [hc]⟩
    exact of_decide_eq_true (List.all_eq_true.mp h w h1)
set_option maxRecDepth 20000 in
theorem wsL_in_37 : ∀ w ∈ wsL_law0_r37, w ∈ lw_tbl := fun w h => (goodIn_p wsL_law0_r37 [1227, 1231, 1236, 1242, 483] (by decide +kernel) (by decide +kernel) w h).1
set_option maxRecDepth 20000 in
theorem wsL_in_38 : ∀ w ∈ wsL_law0_r38, w ∈ lw_tbl := fun w h => (goodIn_p wsL_law0_r38 [487, 1247, 1251, 1254, 753, 756] (by decide +kernel) (by decide +kernel) w h).1
set_option maxRecDepth 20000 in
theorem wsL_in_39 : ∀ w ∈ wsL_law0_r39, w ∈ lw_tbl := fun w h => (goodIn_p wsL_law0_r39 [1258, 750, 462, 669, 1263, 1267] (by decide +kernel) (by decide +kernel) w h).1
set_option maxRecDepth 20000 in
theorem wsL_in_40 : ∀ w ∈ wsL_law0_r40, w ∈ lw_tbl := fun w h => (goodIn_p wsL_law0_r40 [1271, 1278, 1286, 1290] (by decide +kernel) (by decide +kernel) w h).1
set_option maxRecDepth 20000 in
theorem wsL_in_41 : ∀ w ∈ wsL_law0_r41, w ∈ lw_tbl := fun w h => (goodIn_p wsL_law0_r41 [1705, 1709, 1713, 1717, 1721, 1726] (by decide +kernel) (by decide +kernel) w h).1
set_option maxRecDepth 20000 in
theorem wsL_in_42 : ∀ w ∈ wsL_law0_r42, w ∈ lw_tbl := fun w h => (goodIn_p wsL_law0_r42 [1732, 1737, 1748] (by decide +kernel) (by decide +kernel) w h).1
set_option maxRecDepth 20000 in
theorem wsL_in_43 : ∀ w ∈ wsL_law0_r43, w ∈ lw_tbl := fun w h => (goodIn_p wsL_law0_r43 [1760, 1298, 1764, 1306, 393] (by decide +kernel) (by decide +kernel) w h).1
set_option maxRecDepth 20000 in
theorem wsL_in_44 : ∀ w ∈ wsL_law0_r44, w ∈ lw_xt := fun w h => mem_p wsL_law0_r44 [399, 422, 426, 429] (by decide +kernel) (by decide +kernel) w h
set_option maxRecDepth 20000 in
theorem wsL_in_45 : ∀ w ∈ wsL_law0_r45, w ∈ lw_tbl := fun w h => (goodIn_p wsL_law0_r45 [431, 435, 453] (by decide +kernel) (by decide +kernel) w h).1
set_option maxRecDepth 20000 in
theorem wsL_in_46 : ∀ w ∈ wsL_law0_r46, w ∈ lw_tbl := fun w h => (goodIn_p wsL_law0_r46 [698, 701, 704, 733, 738, 741] (by decide +kernel) (by decide +kernel) w h).1
set_option maxRecDepth 20000 in
theorem wsL_in_47 : ∀ w ∈ wsL_law0_r47, w ∈ lw_xt := fun w h => mem_p wsL_law0_r47 [747, 504, 507, 510, 513, 516, 519] (by decide +kernel) (by decide +kernel) w h
set_option maxRecDepth 20000 in
theorem wsL_in_48 : ∀ w ∈ wsL_law0_r48, w ∈ lw_tbl := fun w h => (goodIn_p wsL_law0_r48 [473, 747, 526, 529, 532, 535, 542] (by decide +kernel) (by decide +kernel) w h).1
set_option maxRecDepth 20000 in
theorem wsL_in_49 : ∀ w ∈ wsL_law0_r49, w ∈ lw_tbl := fun w h => (goodIn_p wsL_law0_r49 [459, 465, 470, 545, 571, 573] (by decide +kernel) (by decide +kernel) w h).1
set_option maxRecDepth 20000 in
theorem wsL_in_50 : ∀ w ∈ wsL_law0_r50, w ∈ lw_tbl := fun w h => (goodIn_p wsL_law0_r50 [1768, 1772, 1776, 1780, 389, 760] (by decide +kernel) (by decide +kernel) w h).1
set_option maxRecDepth 20000 in
theorem wsL_in_51 : ∀ w ∈ wsL_law0_r51, w ∈ lw_tbl := fun w h => (goodIn_p wsL_law0_r51 [1784, 1314, 1319, 1322] (by decide +kernel) (by decide +kernel) w h).1
set_option maxRecDepth 20000 in
theorem wsL_in_52 : ∀ w ∈ wsL_law0_r52, w ∈ lw_tbl := fun w h => (goodIn_p wsL_law0_r52 [1788, 1332, 1336, 1792, 1344] (by decide +kernel) (by decide +kernel) w h).1
set_option maxRecDepth 20000 in
theorem wsL_in_53 : ∀ w ∈ wsL_law0_r53, w ∈ lw_tbl := fun w h => (goodIn_p wsL_law0_r53 [1796, 1351, 1800, 1359] (by decide +kernel) (by decide +kernel) w h).1
set_option maxRecDepth 20000 in
theorem wsL_in_54 : ∀ w ∈ wsL_law0_r54, w ∈ lw_tbl := fun w h => (goodIn_p wsL_law0_r54 [1364, 1804, 770, 1808, 774, 1812] (by decide +kernel) (by decide +kernel) w h).1
set_option maxRecDepth 20000 in
theorem wsL_in_55 : ∀ w ∈ wsL_law0_r55, w ∈ lw_tbl := fun w h => (goodIn_p wsL_law0_r55 [1371, 1376, 1816] (by decide +kernel) (by decide +kernel) w h).1
theorem wsL_t_wsX60 : ∀ w ∈ wsX60, w ∈ lw_tbl := by decide +kernel
theorem wsL_t_wsX70 : ∀ w ∈ wsX70, w ∈ lw_tbl := by decide +kernel
theorem wsL_t_wsX50 : ∀ w ∈ wsX50, w ∈ lw_tbl := by decide +kernel
theorem wsL_t_wsX20 : ∀ w ∈ wsX20, w ∈ lw_tbl := by decide +kernel
theorem wsL_t_wsX10 : ∀ w ∈ wsX10, w ∈ lw_tbl := by decide +kernel
theorem wsL_t_wsJ40 : ∀ w ∈ wsJ40, w ∈ lw_tbl := by decide +kernel
theorem wsL_t_wsX40 : ∀ w ∈ wsX40, w ∈ lw_tbl := by decide +kernel
theorem wsL_t_wsJ00 : ∀ w ∈ wsJ00, w ∈ lw_tbl := by decide +kernel
theorem wsL_t_wsJx7c7330 : ∀ w ∈ wsJx7c7330, w ∈ lw_tbl := by decide +kernel
theorem wsL_t_wsJx000600 : ∀ w ∈ wsJx000600, w ∈ lw_tbl := by decide +kernel
theorem wsL_A : ∀ w ∈ (wsL_law0_r1 ++ (wsL_law0_r2 ++ (wsL_law0_r3 ++ (wsL_law0_r4 ++ (wsL_law0_r5 ++ (wsL_law0_r6 ++ (wsL_law0_r7 ++ (wsL_law0_r8 ++ (wsL_law0_r9 ++ (wsL_law0_r10 ++ (wsL_law0_r11 ++ (wsL_law0_r12 ++ (wsL_law0_r13 ++ (wsL_law0_r14 ++ (wsL_law0_r15 ++ (wsL_law0_r16 ++ (wsL_law0_r17 ++ (wsL_law0_r18 ++ (wsL_law0_r19 ++ (wsL_law0_r20 ++ (wsL_law0_r21 ++ (wsL_law0_r22 ++ (wsL_law0_r23 ++ (wsL_law0_r24 ++ (wsL_law0_r25 ++ (wsL_law0_r26 ++ (wsL_law0_r27 ++ (wsL_law0_r28 ++ (wsL_law0_r29 ++ (wsL_law0_r30 ++ (wsL_law0_r31 ++ (wsL_law0_r32 ++ (wsL_law0_r33 ++ (wsL_law0_r34 ++ (wsL_law0_r35 ++ (wsL_law0_r36 ++ (wsL_law0_r37 ++ (wsL_law0_r38 ++ (wsL_law0_r39 ++ (wsL_law0_r40 ++ (wsL_law0_r41 ++ (wsL_law0_r42 ++ (wsL_law0_r43 ++ (wsL_law0_r44 ++ (wsL_law0_r45 ++ (wsL_law0_r46 ++ (wsL_law0_r47 ++ (wsL_law0_r48 ++ (wsL_law0_r49 ++ (wsL_law0_r50 ++ (wsL_law0_r51 ++ (wsL_law0_r52 ++ (wsL_law0_r53 ++ (wsL_law0_r54 ++ (wsL_law0_r55))))))))))))))))))))))))))))))))))))))))))))))))))))))), w ∈ lw_xt := fun w h => (List.mem_append.mp h).elim (fun h => in_xt (wsL_in_1 w h)) (fun h => (List.mem_append.mp h).elim (fun h => in_xt (wsL_in_2 w h)) (fun h => (List.mem_append.mp h).elim (fun h => in_xt (wsL_in_3 w h)) (fun h => (List.mem_append.mp h).elim (fun h => in_xt (wsL_in_4 w h)) (fun h => (List.mem_append.mp h).elim (fun h => in_xt (wsL_in_5 w h)) (fun h => (List.mem_append.mp h).elim (fun h => in_xt (wsL_in_6 w h)) (fun h => (List.mem_append.mp h).elim (fun h => in_xt (wsL_in_7 w h)) (fun h => (List.mem_append.mp h).elim (fun h => in_xt (wsL_in_8 w h)) (fun h => (List.mem_append.mp h).elim (fun h => in_xt (wsL_in_9 w h)) (fun h => (List.mem_append.mp h).elim (fun h => in_xt (wsL_in_10 w h)) (fun h => (List.mem_append.mp h).elim (fun h => in_xt (wsL_in_11 w h)) (fun h => (List.mem_append.mp h).elim (fun h => in_xt (wsL_in_12 w h)) (fun h => (List.mem_append.mp h).elim (fun h => in_xt (wsL_in_13 w h)) (fun h => (List.mem_append.mp h).elim (fun h => in_xt (wsL_in_14 w h)) (fun h => (List.mem_append.mp h).elim (fun h => in_xt (wsL_in_15 w h)) (fun h => (List.mem_append.mp h).elim (fun h => in_xt (wsL_in_16 w h)) (fun h => (List.mem_append.mp h).elim (fun h => in_xt (wsL_in_17 w h)) (fun h => (List.mem_append.mp h).elim (fun h => in_xt (wsL_in_18 w h)) (fun h => (List.mem_append.mp h).elim (fun h => in_xt (wsL_in_19 w h)) (fun h => (List.mem_append.mp h).elim (fun h => in_xt (wsL_in_20 w h)) (fun h => (List.mem_append.mp h).elim (fun h => in_xt (wsL_in_21 w h)) (fun h => (List.mem_append.mp h).elim (fun h => in_xt (wsL_in_22 w h)) (fun h => (List.mem_append.mp h).elim (fun h => in_xt (wsL_in_23 w h)) (fun h => (List.mem_append.mp h).elim (fun h => in_xt (wsL_in_24 w h)) (fun h => (List.mem_append.mp h).elim (fun h => in_xt (wsL_in_25 w h)) (fun h => (List.mem_append.mp h).elim (fun h => in_xt (wsL_in_26 w h)) (fun h => (List.mem_append.mp h).elim (fun h => in_xt (wsL_in_27 w h)) (fun h => (List.mem_append.mp h).elim (fun h => in_xt (wsL_in_28 w h)) (fun h => (List.mem_append.mp h).elim (fun h => in_xt (wsL_in_29 w h)) (fun h => (List.mem_append.mp h).elim (fun h => in_xt (wsL_in_30 w h)) (fun h => (List.mem_append.mp h).elim (fun h => in_xt (wsL_in_31 w h)) (fun h => (List.mem_append.mp h).elim (fun h => in_xt (wsL_in_32 w h)) (fun h => (List.mem_append.mp h).elim (fun h => in_xt (wsL_in_33 w h)) (fun h => (List.mem_append.mp h).elim (fun h => in_xt (wsL_in_34 w h)) (fun h => (List.mem_append.mp h).elim (fun h => in_xt (wsL_in_35 w h)) (fun h => (List.mem_append.mp h).elim (fun h => in_xt (wsL_in_36 w h)) (fun h => (List.mem_append.mp h).elim (fun h => in_xt (wsL_in_37 w h)) (fun h => (List.mem_append.mp h).elim (fun h => in_xt (wsL_in_38 w h)) (fun h => (List.mem_append.mp h).elim (fun h => in_xt (wsL_in_39 w h)) (fun h => (List.mem_append.mp h).elim (fun h => in_xt (wsL_in_40 w h)) (fun h => (List.mem_append.mp h).elim (fun h => in_xt (wsL_in_41 w h)) (fun h => (List.mem_append.mp h).elim (fun h => in_xt (wsL_in_42 w h)) (fun h => (List.mem_append.mp h).elim (fun h => in_xt (wsL_in_43 w h)) (fun h => (List.mem_append.mp h).elim (fun h => wsL_in_44 w h) (fun h => (List.mem_append.mp h).elim (fun h => in_xt (wsL_in_45 w h)) (fun h => (List.mem_append.mp h).elim (fun h => in_xt (wsL_in_46 w h)) (fun h => (List.mem_append.mp h).elim (fun h => wsL_in_47 w h) (fun h => (List.mem_append.mp h).elim (fun h => in_xt (wsL_in_48 w h)) (fun h => (List.mem_append.mp h).elim (fun h => in_xt (wsL_in_49 w h)) (fun h => (List.mem_append.mp h).elim (fun h => in_xt (wsL_in_50 w h)) (fun h => (List.mem_append.mp h).elim (fun h => in_xt (wsL_in_51 w h)) (fun h => (List.mem_append.mp h).elim (fun h => in_xt (wsL_in_52 w h)) (fun h => (List.mem_append.mp h).elim (fun h => in_xt (wsL_in_53 w h)) (fun h => (List.mem_append.mp h).elim (fun h => in_xt (wsL_in_54 w h)) (fun h => in_xt (wsL_in_55 w h)))))))))))))))))))))))))))))))))))))))))))))))))))))))
theorem wsL_law_in0 : ∀ w ∈ wsL_law0, w ∈ lw_xt := fun w h => (List.mem_append.mp h).elim (fun h => (List.mem_append.mp h).elim (fun h => (List.mem_append.mp h).elim (fun h => (List.mem_append.mp h).elim (fun h => (List.mem_append.mp h).elim (fun h => (List.mem_append.mp h).elim (fun h => (List.mem_append.mp h).elim (fun h => (List.mem_append.mp h).elim (fun h => (List.mem_append.mp h).elim (fun h => (List.mem_append.mp h).elim (fun h => (List.mem_append.mp h).elim (fun h => wsL_A w h) (fun h => in_xt (wsL_t_wsX60 w h))) (fun h => in_xt (wsL_t_wsX70 w h))) (fun h => in_xt (wsL_t_wsX50 w h))) (fun h => in_xt (wsL_t_wsX20 w h))) (fun h => in_xt (wsL_t_wsX10 w h))) (fun h => in_xt (wsL_t_wsJ40 w h))) (fun h => in_xt (wsL_t_wsX40 w h))) (fun h => in_xt (wsL_t_wsJ00 w h))) (fun h => in_xt (wsL_t_wsJx7c7330 w h))) (fun h => in_xt (wsL_t_wsJx000600 w h))) (fun h => nomatch h)
