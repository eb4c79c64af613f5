/-! ParityRow.word: its words of the tables (printed) -/
def wsX3_word : List Cond := .code yX3_word cX3_word 6 (some .int) :: ((wsX3_word_r1 ++ (wsX3_word_r2 ++ (wsX3_word_r3 ++ wsX3_word_r4))) ++ wsX30 ++ wsX20 ++ wsX10 ++ wsX00 ++ (vx_atS RX3 86 "java/lang/IndexOutOfBoundsException" ["java/lang/RuntimeException", "java/lang/Exception"]).filter goodWord ++ (vx_atS RX3 93 "java/lang/IllegalStateException" ["java/lang/RuntimeException", "java/lang/Exception"]).filter goodWord)
set_option maxRecDepth 20000 in
theorem ggX3_word_X3_isBlock : GoodIn wsX3_word wsX3_isBlock := goodIn_r _ [12, 6, 83, 84, 85, 86, 87, 88, 89, 90, 91, 92] (by decide +kernel) (by decide +kernel)
set_option maxRecDepth 20000 in
theorem gX3_word_X3_isBlock : GoodIn wsX3_word (wsV RX3 58 RX3 yX3_isBlock wsX3_isBlock) := goodIn_app (goodIn_of _ (by decide +kernel)) ggX3_word_X3_isBlock
set_option maxRecDepth 20000 in
theorem ggX3_word_X3_sourceOf : GoodIn wsX3_word wsX3_sourceOf := goodIn_r _ [16, 17, 18, 19, 20, 21, 22, 23, 24, 25, 26, 27, 28, 29, 30, 31, 32, 33, 34, 35, 36, 37, 11, 38, 39, 40, 41, 42, 43, 44, 45, 46, 47, 48, 49, 50, 51, 52, 53, 54, 55, 56, 57, 58, 59, 60, 61, 62, 63, 64, 65, 66, 83, 84, 85, 86, 87, 88, 89, 90, 91, 92, 93, 94, 95, 96, 97, 98, 99, 100, 101, 102, 103, 104, 105, 106, 107, 108] (by decide +kernel) (by decide +kernel)
set_option maxRecDepth 20000 in
theorem gX3_word_X3_sourceOf : GoodIn wsX3_word (wsV RX3 79 RX3 yX3_sourceOf wsX3_sourceOf) := goodIn_app (goodIn_of _ (by decide +kernel)) ggX3_word_X3_sourceOf
set_option maxRecDepth 20000 in
theorem ggX3_word_X3_clearMixed : GoodIn wsX3_word wsX3_clearMixed := goodIn_r _ [70, 7, 83, 84, 85, 86, 87, 88, 89, 90, 91, 92] (by decide +kernel) (by decide +kernel)
set_option maxRecDepth 20000 in
theorem gX3_word_X3_clearMixed : GoodIn wsX3_word (wsV RX3 96 RX3 yX3_clearMixed wsX3_clearMixed) := goodIn_app (goodIn_of _ (by decide +kernel)) ggX3_word_X3_clearMixed
set_option maxRecDepth 20000 in
theorem ggX3_word_X3_memberOf : GoodIn wsX3_word wsX3_memberOf := goodIn_r _ [38, 39, 40, 41, 42, 11, 43, 83, 84, 85, 86, 87, 88, 89, 90, 91, 92] (by decide +kernel) (by decide +kernel)
set_option maxRecDepth 20000 in
theorem gX3_word_X3_memberOf : GoodIn wsX3_word (wsV RX3 62 RX3 yX3_memberOf wsX3_memberOf) := goodIn_app (goodIn_of _ (by decide +kernel)) ggX3_word_X3_memberOf
set_option maxRecDepth 20000 in
theorem ggX3_word_X3_mixOthers : GoodIn wsX3_word wsX3_mixOthers := goodIn_r _ [74, 39, 18, 75, 76, 77, 11, 78, 7, 83, 84, 85, 86, 87, 88, 89, 90, 91, 92, 103, 104, 105, 106, 107, 108] (by decide +kernel) (by decide +kernel)
set_option maxRecDepth 20000 in
theorem gX3_word_X3_mixOthers : GoodIn wsX3_word (wsV RX3 99 RX3 yX3_mixOthers wsX3_mixOthers) := goodIn_app (goodIn_of _ (by decide +kernel)) ggX3_word_X3_mixOthers
set_option maxRecDepth 20000 in
theorem ggX3_word_X3_mixNewest : GoodIn wsX3_word wsX3_mixNewest := goodIn_r _ [82, 17, 18, 19, 20, 21, 22, 23, 24, 25, 26, 27, 28, 29, 30, 31, 32, 33, 34, 75, 76, 77, 11, 78, 7, 35, 36, 37, 38, 39, 40, 41, 42, 43, 83, 84, 85, 86, 87, 88, 89, 90, 91, 92, 99, 100, 101, 102, 103, 104, 105, 106, 107, 108, 93, 94, 95, 96, 97, 98] (by decide +kernel) (by decide +kernel)
set_option maxRecDepth 20000 in
theorem gX3_word_X3_mixNewest : GoodIn wsX3_word (wsV RX3 103 RX3 yX3_mixNewest wsX3_mixNewest) := goodIn_app (goodIn_of _ (by decide +kernel)) ggX3_word_X3_mixNewest
