/-! rows of the law -/
theorem goodIn_cons {big a : List Cond} {c : Cond} (hm : c ∈ big) (hg : goodWord c = true) (ha : GoodIn big a) : GoodIn big (c :: a) := fun w h => (List.mem_cons.mp h).elim (fun e => by rw [e]; exact ⟨hm, good_of_word hg⟩) (ha w)
set_option maxRecDepth 20000 in
theorem gg_play_r1 : GoodIn lw_tbl wsX7_play_r1 := goodIn_c _ [(43, 0), (46, 5), (4, 0), (47, 18), (3, 23), (9, 13), (3, 22), (14, 9), (14, 10), (14, 11), (0, 5), (14, 12), (3, 14), (9, 18), (9, 19), (9, 20), (9, 21), (47, 19), (47, 20), (47, 21), (47, 22), (3, 21), (47, 23), (48, 0)] (by decide +kernel) (by decide +kernel)
set_option maxRecDepth 20000 in
theorem gg_play_r2 : GoodIn lw_tbl wsX7_play_r2 := goodIn_c _ [(48, 1), (48, 2), (48, 3), (48, 4), (48, 5), (13, 10), (13, 11), (13, 12), (13, 13), (27, 23), (28, 0), (28, 1), (28, 2), (9, 14), (3, 17), (28, 3), (28, 4), (28, 5), (28, 6), (28, 7), (28, 8), (28, 9), (3, 16), (10, 5)] (by decide +kernel) (by decide +kernel)
set_option maxRecDepth 20000 in
theorem gg_play_r3 : GoodIn lw_tbl wsX7_play_r3 := goodIn_c _ [(10, 6), (10, 7), (10, 8), (28, 10), (28, 11), (28, 12), (28, 13), (28, 14), (28, 15), (28, 16), (28, 17), (17, 23), (18, 0), (18, 1), (18, 2), (28, 18), (28, 19), (28, 20), (28, 21), (28, 22), (28, 23), (29, 0), (29, 1), (29, 2)] (by decide +kernel) (by decide +kernel)
set_option maxRecDepth 20000 in
theorem gg_play_r4 : GoodIn lw_tbl wsX7_play_r4 := goodIn_c _ [(29, 3), (29, 4), (29, 5), (10, 17), (10, 18), (10, 19), (10, 20), (10, 21), (10, 22), (10, 23), (11, 0), (11, 1), (11, 2), (11, 3), (11, 4), (11, 5), (11, 6), (11, 7), (11, 8), (11, 9), (11, 10), (11, 11), (11, 12), (11, 13)] (by decide +kernel) (by decide +kernel)
set_option maxRecDepth 20000 in
theorem gg_play_r5 : GoodIn lw_tbl wsX7_play_r5 := goodIn_c _ [(11, 14), (29, 6), (29, 7), (29, 8), (29, 9), (10, 9), (10, 10), (10, 11), (10, 12), (10, 13), (10, 14), (10, 15), (10, 16), (11, 15), (11, 16), (11, 17), (9, 22), (9, 23), (10, 0), (11, 18), (11, 19), (11, 20), (29, 10), (29, 11)] (by decide +kernel) (by decide +kernel)
set_option maxRecDepth 20000 in
theorem gg_play_r6 : GoodIn lw_tbl wsX7_play_r6 := goodIn_c _ [(29, 12), (29, 13), (29, 14), (29, 15), (29, 16), (29, 17), (29, 18), (29, 19), (29, 20), (29, 21), (29, 22), (29, 23), (30, 0), (30, 1), (30, 2), (30, 3), (30, 4), (30, 5), (30, 6), (30, 7), (30, 8), (30, 9), (30, 10), (30, 11)] (by decide +kernel) (by decide +kernel)
set_option maxRecDepth 20000 in
theorem gg_play_r7 : GoodIn lw_tbl wsX7_play_r7 := goodIn_c _ [(30, 12), (30, 13), (30, 14), (30, 15), (30, 16), (30, 17), (30, 18), (30, 19), (30, 20), (16, 20), (16, 21), (16, 22), (16, 23), (30, 21), (30, 22), (30, 23), (31, 0), (31, 1), (31, 2), (31, 3), (31, 4), (3, 15), (31, 5), (31, 6)] (by decide +kernel) (by decide +kernel)
set_option maxRecDepth 20000 in
theorem gg_play_r8 : GoodIn lw_tbl wsX7_play_r8 := goodIn_c _ [(31, 7), (31, 8), (31, 9), (31, 10), (31, 11), (31, 12), (31, 13), (31, 14), (31, 15), (31, 16), (31, 17), (31, 18), (31, 19), (31, 20), (31, 21), (31, 22), (31, 23), (32, 0), (32, 1), (32, 2), (32, 3), (32, 4), (32, 5), (32, 6)] (by decide +kernel) (by decide +kernel)
set_option maxRecDepth 20000 in
theorem gg_play_r9 : GoodIn lw_tbl wsX7_play_r9 := goodIn_c _ [(32, 7), (32, 8), (32, 9), (32, 10), (32, 11), (32, 12), (32, 13), (32, 14), (32, 15), (32, 16), (32, 17), (32, 18), (32, 19), (32, 20), (32, 21), (32, 22), (32, 23), (33, 0), (33, 1), (33, 2), (33, 3), (33, 4), (33, 5), (33, 6)] (by decide +kernel) (by decide +kernel)
set_option maxRecDepth 20000 in
theorem gg_play_r10 : GoodIn lw_tbl wsX7_play_r10 := goodIn_c _ [(33, 7), (33, 8), (33, 9), (33, 10), (33, 11), (33, 12), (33, 13), (33, 14), (33, 15), (33, 16), (33, 17), (33, 18), (33, 19), (33, 20)] (by decide +kernel) (by decide +kernel)
set_option maxRecDepth 20000 in
theorem gg_play_X70 : GoodIn lw_tbl wsX70 := goodIn_c _ [(51, 0), (51, 1), (51, 2), (51, 3), (51, 4), (51, 5), (51, 6), (51, 7), (51, 8), (51, 9), (51, 10), (51, 11), (51, 12), (51, 13), (51, 14), (51, 15), (51, 16)] (by decide +kernel) (by decide +kernel)
theorem gg_play_R : GoodIn lw_tbl (wsX7_play_r1 ++ (wsX7_play_r2 ++ (wsX7_play_r3 ++ (wsX7_play_r4 ++ (wsX7_play_r5 ++ (wsX7_play_r6 ++ (wsX7_play_r7 ++ (wsX7_play_r8 ++ (wsX7_play_r9 ++ wsX7_play_r10))))))))) := goodIn_app gg_play_r1 (goodIn_app gg_play_r2 (goodIn_app gg_play_r3 (goodIn_app gg_play_r4 (goodIn_app gg_play_r5 (goodIn_app gg_play_r6 (goodIn_app gg_play_r7 (goodIn_app gg_play_r8 (goodIn_app gg_play_r9 gg_play_r10))))))))
set_option maxRecDepth 20000 in
theorem ggL_law_X7_play : GoodIn lw_tbl wsX7_play := goodIn_ca (goodIn_cons (lwC_in wsL_law0_r48 (List.mem_of_getElem? (i := 47) rfl) _ (List.mem_of_getElem? (i := 17) rfl)) (by decide +kernel) (goodIn_app gg_play_R gg_play_X70)) (goodIn_tbl (goodIn_sub (fun _ h => List.mem_append_left _ (List.mem_append_left _ (List.mem_append_left _ (List.mem_append_left _ (List.mem_append_left _ (List.mem_append_left _ (List.mem_append_right _ h))))))) (by decide +kernel)))
set_option maxRecDepth 20000 in
theorem gL_law_X7_play : GoodIn lw_tbl (wsV RL 234 RX7 yX7_play wsX7_play) := goodIn_app (goodIn_of _ (by decide +kernel)) ggL_law_X7_play
