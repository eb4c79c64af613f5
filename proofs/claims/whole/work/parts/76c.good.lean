/-! the words of the law's callees (printed), by chunks -/
set_option maxRecDepth 20000 in
theorem ggL_law_X3_start : GoodIn wsL_law wsX3_start := goodIn_c _ [(22, 16), (0, 20), (0, 21), (1, 9), (22, 3), (22, 4), (0, 2), (22, 5), (22, 17), (22, 18), (22, 19), (22, 20), (0, 18), (6, 9), (1, 8), (6, 10), (6, 11), (2, 4), (2, 5), (9, 23), (10, 0), (10, 1), (10, 2), (1, 0), (1, 3), (4, 10), (4, 11), (4, 12), (4, 13), (4, 14), (4, 15), (4, 16), (4, 17), (7, 20), (2, 11), (7, 21), (7, 22), (2, 16), (7, 2), (1, 5), (7, 3), (7, 4), (1, 22), (10, 3), (10, 4), (10, 5), (10, 6), (0, 22), (10, 7), (10, 8), (10, 9), (10, 10), (0, 23), (10, 11), (10, 12), (10, 13), (1, 21), (10, 14), (10, 15), (10, 16), (1, 17), (1, 18), (1, 20), (1, 23), (8, 3), (8, 4), (8, 5), (10, 17), (10, 18), (10, 19), (10, 20), (10, 21), (10, 22), (10, 23), (2, 6), (2, 8), (2, 9), (2, 7), (6, 8), (9, 8), (9, 9), (9, 10), (9, 11), (8, 7), (8, 8), (8, 9), (8, 10), (8, 11), (8, 12), (26, 0), (26, 1), (26, 2), (26, 3), (26, 4), (26, 5), (26, 6), (26, 7), (26, 8), (26, 9), (29, 0), (29, 1), (29, 2), (29, 3), (29, 4), (29, 5), (30, 0), (30, 1), (30, 2), (30, 3), (28, 0), (28, 1), (28, 2), (28, 3), (28, 4), (28, 5)] rfl (by decide +kernel)
set_option maxRecDepth 20000 in
theorem gL_law_X3_start : GoodIn wsL_law (wsV RL 84 RX3 yX3_start wsX3_start) := goodIn_app (goodIn_of _ (by decide +kernel)) ggL_law_X3_start
set_option maxRecDepth 20000 in
theorem ggL_law_X4_start : GoodIn wsL_law wsX4_start := goodIn_c _ [(23, 0), (11, 12), (22, 10), (22, 11), (3, 13), (14, 2), (3, 11), (11, 17), (3, 6), (3, 14), (3, 12), (14, 20), (5, 3), (5, 4), (0, 5), (5, 5), (13, 18), (13, 19), (13, 20), (13, 21), (3, 8), (3, 17), (3, 7), (14, 3), (14, 4), (14, 5), (14, 6), (3, 5), (5, 6), (5, 7), (5, 8), (5, 9), (5, 10), (5, 11), (5, 12), (5, 13), (11, 22), (11, 23), (12, 0), (12, 1), (3, 2), (3, 3), (14, 7), (14, 8), (14, 9), (14, 10), (3, 15), (3, 10), (14, 11), (14, 12), (14, 13), (14, 14), (3, 4), (14, 15), (2, 23), (3, 1), (3, 0), (12, 22), (12, 23), (13, 0), (13, 1), (14, 16), (14, 17), (14, 18), (14, 19), (13, 2), (13, 3), (13, 4), (13, 5), (14, 21), (14, 22), (14, 23), (15, 0), (27, 0), (27, 1), (27, 2), (27, 3), (27, 4), (27, 5), (27, 6), (27, 7), (27, 8), (27, 9), (27, 10), (27, 11), (27, 12), (27, 13), (27, 14), (27, 15), (27, 16), (27, 17), (27, 18), (27, 19), (27, 20), (27, 21), (27, 22), (27, 23), (27, 24)] rfl (by decide +kernel)
set_option maxRecDepth 20000 in
theorem gL_law_X4_start : GoodIn wsL_law (wsV RL 87 RX4 yX4_start wsX4_start) := goodIn_app (goodIn_of _ (by decide +kernel)) ggL_law_X4_start
set_option maxRecDepth 20000 in
theorem ggL_law_X3_chunk : GoodIn wsL_law wsX3_chunk := goodIn_c _ [(23, 4), (1, 3), (18, 1), (18, 2), (18, 3), (0, 2), (18, 4), (1, 0), (21, 15), (21, 16), (21, 17), (7, 23), (1, 5), (8, 0), (8, 1), (1, 20), (1, 18), (1, 17), (8, 2), (7, 2), (7, 3), (7, 4), (1, 22), (8, 3), (8, 4), (8, 5), (26, 0), (26, 1), (26, 2), (26, 3), (26, 4), (26, 5), (26, 6), (26, 7), (26, 8), (26, 9), (28, 0), (28, 1), (28, 2), (28, 3), (28, 4), (28, 5)] rfl (by decide +kernel)
set_option maxRecDepth 20000 in
theorem gL_law_X3_chunk : GoodIn wsL_law (wsV RL 88 RX3 yX3_chunk wsX3_chunk) := goodIn_app (goodIn_of _ (by decide +kernel)) ggL_law_X3_chunk
set_option maxRecDepth 20000 in
theorem ggL_law_X4_chunk : GoodIn wsL_law wsX4_chunk := goodIn_c _ [(23, 8), (3, 17), (21, 22), (17, 2), (2, 23), (3, 0), (3, 1), (5, 3), (5, 4), (0, 5), (5, 5), (12, 22), (12, 23), (13, 0), (13, 1), (12, 18), (12, 19), (12, 20), (12, 21), (11, 22), (11, 23), (12, 0), (12, 1), (3, 2), (3, 3), (13, 2), (13, 3), (13, 4), (13, 5), (27, 0), (27, 1), (27, 2), (27, 3), (27, 4), (27, 5), (27, 6), (27, 7), (27, 8), (27, 9), (27, 10), (27, 11), (27, 12), (27, 13), (27, 14), (27, 15), (27, 16), (27, 17), (27, 18), (27, 19), (27, 20), (27, 21), (27, 22), (27, 23), (27, 24)] rfl (by decide +kernel)
set_option maxRecDepth 20000 in
theorem gL_law_X4_chunk : GoodIn wsL_law (wsV RL 91 RX4 yX4_chunk wsX4_chunk) := goodIn_app (goodIn_of _ (by decide +kernel)) ggL_law_X4_chunk
set_option maxRecDepth 20000 in
theorem ggL_law_X3_member : GoodIn wsL_law wsX3_member := goodIn_c _ [(23, 12), (1, 3), (18, 1), (18, 2), (18, 3), (0, 2), (18, 4), (1, 0), (26, 0), (26, 1), (26, 2), (26, 3), (26, 4), (26, 5), (26, 6), (26, 7), (26, 8), (26, 9), (28, 0), (28, 1), (28, 2), (28, 3), (28, 4), (28, 5)] rfl (by decide +kernel)
set_option maxRecDepth 20000 in
theorem gL_law_X3_member : GoodIn wsL_law (wsV RL 92 RX3 yX3_member wsX3_member) := goodIn_app (goodIn_of _ (by decide +kernel)) ggL_law_X3_member
set_option maxRecDepth 20000 in
theorem ggL_law_X4_member : GoodIn wsL_law wsX4_member := goodIn_c _ [(23, 16), (3, 17), (3, 2), (3, 3), (3, 4), (5, 3), (5, 4), (0, 5), (5, 5), (27, 0), (27, 1), (27, 2), (27, 3), (27, 4), (27, 5), (27, 6), (27, 7), (27, 8), (27, 9), (27, 10), (27, 11), (27, 12), (27, 13), (27, 14), (27, 15), (27, 16), (27, 17), (27, 18), (27, 19), (27, 20), (27, 21), (27, 22), (27, 23), (27, 24)] rfl (by decide +kernel)
set_option maxRecDepth 20000 in
theorem gL_law_X4_member : GoodIn wsL_law (wsV RL 95 RX4 yX4_member wsX4_member) := goodIn_app (goodIn_of _ (by decide +kernel)) ggL_law_X4_member
set_option maxRecDepth 20000 in
theorem ggL_law_X3_journal : GoodIn wsL_law wsX3_journal := goodIn_c _ [(23, 20), (0, 20), (1, 9), (9, 16), (1, 8), (9, 17), (9, 18), (2, 7), (23, 21), (23, 22), (23, 23), (0, 2), (24, 0), (24, 1), (24, 2), (24, 3), (2, 9), (2, 6), (26, 0), (26, 1), (26, 2), (26, 3), (26, 4), (26, 5), (26, 6), (26, 7), (26, 8), (26, 9), (29, 0), (29, 1), (29, 2), (29, 3), (29, 4), (29, 5)] rfl (by decide +kernel)
set_option maxRecDepth 20000 in
theorem gL_law_X3_journal : GoodIn wsL_law (wsV RL 96 RX3 yX3_journal wsX3_journal) := goodIn_app (goodIn_of _ (by decide +kernel)) ggL_law_X3_journal
set_option maxRecDepth 20000 in
theorem ggL_law_X4_journal : GoodIn wsL_law wsX4_journal := goodIn_c _ [(24, 7), (11, 12), (11, 17), (3, 12), (14, 2), (3, 11), (13, 14), (13, 15), (13, 16), (0, 5), (13, 17), (13, 18), (13, 19), (13, 20), (13, 21), (3, 8), (3, 17), (3, 7), (27, 0), (27, 1), (27, 2), (27, 3), (27, 4), (27, 5), (27, 6), (27, 7), (27, 8), (27, 9), (27, 10), (27, 11), (27, 12), (27, 13), (27, 14), (27, 15), (27, 16), (27, 17), (27, 18), (27, 19), (27, 20), (27, 21), (27, 22), (27, 23), (27, 24)] rfl (by decide +kernel)
set_option maxRecDepth 20000 in
theorem gL_law_X4_journal : GoodIn wsL_law (wsV RL 99 RX4 yX4_journal wsX4_journal) := goodIn_app (goodIn_of _ (by decide +kernel)) ggL_law_X4_journal
set_option maxRecDepth 20000 in
theorem ggL_law_X3_record : GoodIn wsL_law wsX3_record := goodIn_c _ [(24, 11), (1, 9), (1, 1), (23, 21), (23, 22), (23, 23), (0, 2), (24, 0), (0, 20), (6, 9), (1, 8), (6, 10), (6, 11), (2, 4), (2, 5), (6, 22), (6, 23), (7, 0), (7, 1), (7, 20), (2, 11), (7, 21), (7, 22), (2, 16), (26, 0), (26, 1), (26, 2), (26, 3), (26, 4), (26, 5), (26, 6), (26, 7), (26, 8), (26, 9), (30, 0), (30, 1), (30, 2), (30, 3), (29, 0), (29, 1), (29, 2), (29, 3), (29, 4), (29, 5)] rfl (by decide +kernel)
set_option maxRecDepth 20000 in
theorem gL_law_X3_record : GoodIn wsL_law (wsV RL 100 RX3 yX3_record wsX3_record) := goodIn_app (goodIn_of _ (by decide +kernel)) ggL_law_X3_record
set_option maxRecDepth 20000 in
theorem ggL_law_X4_record : GoodIn wsL_law wsX4_record := goodIn_c _ [(24, 15), (11, 12), (11, 17), (3, 5), (3, 7), (3, 8), (3, 6), (3, 9), (5, 3), (5, 4), (0, 5), (5, 5), (27, 0), (27, 1), (27, 2), (27, 3), (27, 4), (27, 5), (27, 6), (27, 7), (27, 8), (27, 9), (27, 10), (27, 11), (27, 12), (27, 13), (27, 14), (27, 15), (27, 16), (27, 17), (27, 18), (27, 19), (27, 20), (27, 21), (27, 22), (27, 23), (27, 24)] rfl (by decide +kernel)
set_option maxRecDepth 20000 in
theorem gL_law_X4_record : GoodIn wsL_law (wsV RL 103 RX4 yX4_record wsX4_record) := goodIn_app (goodIn_of _ (by decide +kernel)) ggL_law_X4_record
set_option maxRecDepth 20000 in
theorem ggL_law_X3_count : GoodIn wsL_law wsX3_count := goodIn_c _ [(24, 19), (0, 18), (26, 0), (26, 1), (26, 2), (26, 3), (26, 4), (26, 5), (26, 6), (26, 7), (26, 8), (26, 9)] rfl (by decide +kernel)
set_option maxRecDepth 20000 in
theorem gL_law_X3_count : GoodIn wsL_law (wsV RL 104 RX3 yX3_count wsX3_count) := goodIn_app (goodIn_of _ (by decide +kernel)) ggL_law_X3_count
set_option maxRecDepth 20000 in
theorem ggL_law_X4_count : GoodIn wsL_law wsX4_count := goodIn_c _ [(24, 23), (25, 0), (3, 14), (5, 3), (5, 4), (0, 5), (5, 5), (27, 0), (27, 1), (27, 2), (27, 3), (27, 4), (27, 5), (27, 6), (27, 7), (27, 8), (27, 9), (27, 10), (27, 11), (27, 12), (27, 13), (27, 14), (27, 15), (27, 16), (27, 17), (27, 18), (27, 19), (27, 20), (27, 21), (27, 22), (27, 23), (27, 24)] rfl (by decide +kernel)
set_option maxRecDepth 20000 in
theorem gL_law_X4_count : GoodIn wsL_law (wsV RL 107 RX4 yX4_count wsX4_count) := goodIn_app (goodIn_of _ (by decide +kernel)) ggL_law_X4_count
set_option maxRecDepth 20000 in
theorem ggL_law_X3_audit : GoodIn wsL_law wsX3_audit := goodIn_c _ [(25, 4), (15, 13), (15, 14), (15, 15), (0, 2), (15, 16), (1, 0), (1, 3), (7, 23), (1, 5), (8, 0), (8, 1), (1, 20), (1, 18), (1, 17), (8, 2), (7, 2), (7, 3), (7, 4), (1, 22), (8, 3), (8, 4), (8, 5), (20, 19), (20, 20), (20, 21), (20, 22), (0, 19), (8, 17), (8, 18), (8, 19), (8, 20), (16, 18), (16, 19), (16, 20), (16, 21), (8, 21), (8, 22), (8, 23), (9, 0), (26, 0), (26, 1), (26, 2), (26, 3), (26, 4), (26, 5), (26, 6), (26, 7), (26, 8), (26, 9), (28, 0), (28, 1), (28, 2), (28, 3), (28, 4), (28, 5)] rfl (by decide +kernel)
set_option maxRecDepth 20000 in
theorem gL_law_X3_audit : GoodIn wsL_law (wsV RL 108 RX3 yX3_audit wsX3_audit) := goodIn_app (goodIn_of _ (by decide +kernel)) ggL_law_X3_audit
set_option maxRecDepth 20000 in
theorem ggL_law_X4_audit : GoodIn wsL_law wsX4_audit := goodIn_c _ [(25, 8), (16, 1), (16, 2), (16, 3), (0, 5), (16, 4), (3, 17), (12, 18), (12, 19), (12, 20), (12, 21), (3, 1), (3, 0), (12, 22), (12, 23), (13, 0), (13, 1), (11, 22), (11, 23), (12, 0), (12, 1), (3, 2), (3, 3), (13, 2), (13, 3), (13, 4), (13, 5), (2, 23), (21, 7), (21, 8), (21, 9), (21, 10), (17, 4), (17, 5), (17, 6), (17, 7), (27, 0), (27, 1), (27, 2), (27, 3), (27, 4), (27, 5), (27, 6), (27, 7), (27, 8), (27, 9), (27, 10), (27, 11), (27, 12), (27, 13), (27, 14), (27, 15), (27, 16), (27, 17), (27, 18), (27, 19), (27, 20), (27, 21), (27, 22), (27, 23), (27, 24)] rfl (by decide +kernel)
set_option maxRecDepth 20000 in
theorem gL_law_X4_audit : GoodIn wsL_law (wsV RL 111 RX4 yX4_audit wsX4_audit) := goodIn_app (goodIn_of _ (by decide +kernel)) ggL_law_X4_audit
