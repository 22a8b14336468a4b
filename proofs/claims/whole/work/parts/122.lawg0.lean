set_option maxRecDepth 20000 in
theorem ggL_law_L_cell : GoodIn wsL_law wsL_cell := goodIn_r _ [9] (by decide +kernel) (by decide +kernel)
set_option maxRecDepth 20000 in
theorem gL_law_L_cell : GoodIn wsL_law (va_wsS RL 9 yL_cell wsL_cell) := goodIn_app (goodIn_of _ (by decide +kernel)) ggL_law_L_cell
set_option maxRecDepth 20000 in
theorem ggL_law_X3_init : GoodIn wsL_law wsX3_init := goodIn_r _ [12, 13, 14, 15, 16, 17, 18, 19, 20, 21, 22, 23, 24, 25, 26, 27, 28, 29, 30, 31, 32, 33, 34, 35, 36, 37, 38, 39, 40, 41, 42, 43, 44, 45, 46, 47, 48, 49, 50, 51, 52, 53, 54, 55, 56, 57, 58, 59, 60, 61, 62, 63, 522, 523, 524, 525, 526, 527, 528, 529, 555, 556, 557, 558, 559, 560, 561, 562, 563, 564, 565, 566, 567, 568, 569, 570, 571, 572, 573, 574, 575, 576, 577] (by decide +kernel) (by decide +kernel)
set_option maxRecDepth 20000 in
theorem gL_law_X3_init : GoodIn wsL_law (wsX3_init) := ggL_law_X3_init
set_option maxRecDepth 20000 in
theorem ggL_law_X4_init : GoodIn wsL_law wsX4_init := goodIn_r _ [66, 67, 14, 15, 28, 68, 69, 70, 71, 72, 73, 74, 75, 76, 77, 78, 79, 80, 81, 82, 83, 84, 85, 86, 87, 88, 89, 90, 530, 531, 532, 533, 534, 535, 536, 537, 538, 539, 540, 541, 542, 543, 544, 545, 546, 547, 548, 549, 550, 551, 552, 553, 554] (by decide +kernel) (by decide +kernel)
set_option maxRecDepth 20000 in
theorem gL_law_X4_init : GoodIn wsL_law (wsX4_init) := ggL_law_X4_init
set_option maxRecDepth 20000 in
theorem ggL_law_X3_work : GoodIn wsL_law wsX3_work := goodIn_r _ [94, 95, 25, 96, 97, 2, 98, 522, 523, 524, 525, 526, 527, 528, 529, 555, 556, 557, 558, 559, 560, 561, 562, 563, 564] (by decide +kernel) (by decide +kernel)
set_option maxRecDepth 20000 in
theorem gL_law_X3_work : GoodIn wsL_law (wsV RL 21 RX3 yX3_work wsX3_work) := goodIn_app (goodIn_of _ (by decide +kernel)) ggL_law_X3_work
set_option maxRecDepth 20000 in
theorem ggL_law_X4_work : GoodIn wsL_law wsX4_work := goodIn_r _ [102, 103, 68, 69, 75, 76, 77, 80, 104, 105, 5, 106, 530, 531, 532, 533, 534, 535, 536, 537, 538, 539, 540, 541, 542, 543, 544, 545, 546, 547, 548, 549, 550, 551, 552, 553, 554] (by decide +kernel) (by decide +kernel)
set_option maxRecDepth 20000 in
theorem gL_law_X4_work : GoodIn wsL_law (wsV RL 25 RX4 yX4_work wsX4_work) := goodIn_app (goodIn_of _ (by decide +kernel)) ggL_law_X4_work
set_option maxRecDepth 20000 in
theorem ggL_law_X3_near : GoodIn wsL_law wsX3_near := goodIn_r _ [110, 25, 111, 112, 113, 2, 114, 95, 115, 116, 117, 118, 522, 523, 524, 525, 526, 527, 528, 529, 555, 556, 557, 558, 559, 560, 561, 562, 563, 564] (by decide +kernel) (by decide +kernel)
set_option maxRecDepth 20000 in
theorem gL_law_X3_near : GoodIn wsL_law (wsV RL 26 RX3 yX3_near wsX3_near) := goodIn_app (goodIn_of _ (by decide +kernel)) ggL_law_X3_near
set_option maxRecDepth 20000 in
theorem ggL_law_X4_near : GoodIn wsL_law wsX4_near := goodIn_r _ [122, 71, 123, 124, 125, 5, 126, 103, 530, 531, 532, 533, 534, 535, 536, 537, 538, 539, 540, 541, 542, 543, 544, 545, 546, 547, 548, 549, 550, 551, 552, 553, 554] (by decide +kernel) (by decide +kernel)
set_option maxRecDepth 20000 in
theorem gL_law_X4_near : GoodIn wsL_law (wsV RL 30 RX4 yX4_near wsX4_near) := goodIn_app (goodIn_of _ (by decide +kernel)) ggL_law_X4_near
set_option maxRecDepth 20000 in
theorem ggL_law_X3_delay : GoodIn wsL_law wsX3_delay := goodIn_r _ [130, 131, 25, 111, 112, 113, 2, 114, 95, 132, 133, 134, 135, 23, 96, 97, 98, 522, 523, 524, 525, 526, 527, 528, 529, 555, 556, 557, 558, 559, 560, 561, 562, 563, 564] (by decide +kernel) (by decide +kernel)
set_option maxRecDepth 20000 in
theorem gL_law_X3_delay : GoodIn wsL_law (wsV RL 31 RX3 yX3_delay wsX3_delay) := goodIn_app (goodIn_of _ (by decide +kernel)) ggL_law_X3_delay
set_option maxRecDepth 20000 in
theorem ggL_law_X4_delay : GoodIn wsL_law wsX4_delay := goodIn_r _ [139, 140, 72, 123, 124, 125, 5, 126, 103, 141, 142, 143, 144, 90, 104, 105, 106, 530, 531, 532, 533, 534, 535, 536, 537, 538, 539, 540, 541, 542, 543, 544, 545, 546, 547, 548, 549, 550, 551, 552, 553, 554] (by decide +kernel) (by decide +kernel)
set_option maxRecDepth 20000 in
theorem gL_law_X4_delay : GoodIn wsL_law (wsV RL 35 RX4 yX4_delay wsX4_delay) := goodIn_app (goodIn_of _ (by decide +kernel)) ggL_law_X4_delay
set_option maxRecDepth 20000 in
theorem ggL_law_X3_night : GoodIn wsL_law wsX3_night := goodIn_r _ [148, 25, 111, 112, 113, 2, 114, 95, 522, 523, 524, 525, 526, 527, 528, 529, 555, 556, 557, 558, 559, 560, 561, 562, 563, 564] (by decide +kernel) (by decide +kernel)
set_option maxRecDepth 20000 in
theorem gL_law_X3_night : GoodIn wsL_law (wsV RL 36 RX3 yX3_night wsX3_night) := goodIn_app (goodIn_of _ (by decide +kernel)) ggL_law_X3_night
set_option maxRecDepth 20000 in
theorem ggL_law_X4_night : GoodIn wsL_law wsX4_night := goodIn_r _ [152, 73, 123, 124, 125, 5, 126, 103, 530, 531, 532, 533, 534, 535, 536, 537, 538, 539, 540, 541, 542, 543, 544, 545, 546, 547, 548, 549, 550, 551, 552, 553, 554] (by decide +kernel) (by decide +kernel)
set_option maxRecDepth 20000 in
theorem gL_law_X4_night : GoodIn wsL_law (wsV RL 40 RX4 yX4_night wsX4_night) := goodIn_app (goodIn_of _ (by decide +kernel)) ggL_law_X4_night
set_option maxRecDepth 20000 in
theorem ggL_law_X3_event : GoodIn wsL_law wsX3_event := goodIn_r _ [156, 25, 111, 112, 113, 2, 114, 95, 132, 133, 134, 135, 23, 115, 116, 117, 118, 522, 523, 524, 525, 526, 527, 528, 529, 555, 556, 557, 558, 559, 560, 561, 562, 563, 564] (by decide +kernel) (by decide +kernel)
set_option maxRecDepth 20000 in
theorem gL_law_X3_event : GoodIn wsL_law (wsV RL 41 RX3 yX3_event wsX3_event) := goodIn_app (goodIn_of _ (by decide +kernel)) ggL_law_X3_event
set_option maxRecDepth 20000 in
theorem ggL_law_X4_event : GoodIn wsL_law wsX4_event := goodIn_r _ [160, 74, 123, 124, 125, 5, 126, 103, 141, 142, 143, 144, 90, 530, 531, 532, 533, 534, 535, 536, 537, 538, 539, 540, 541, 542, 543, 544, 545, 546, 547, 548, 549, 550, 551, 552, 553, 554] (by decide +kernel) (by decide +kernel)
set_option maxRecDepth 20000 in
theorem gL_law_X4_event : GoodIn wsL_law (wsV RL 44 RX4 yX4_event wsX4_event) := goodIn_app (goodIn_of _ (by decide +kernel)) ggL_law_X4_event
