set_option maxRecDepth 20000 in
theorem ggL_law_X3_notice : GoodIn wsL_law wsX3_notice := goodIn_r _ [464, 33, 465, 32, 466, 467, 248, 522, 523, 524, 525, 526, 527, 528, 529, 565, 566, 567] (by decide +kernel) (by decide +kernel)
set_option maxRecDepth 20000 in
theorem gL_law_X3_notice : GoodIn wsL_law (wsV RL 102 RX3 yX3_notice wsX3_notice) := goodIn_app (goodIn_of _ (by decide +kernel)) ggL_law_X3_notice
set_option maxRecDepth 20000 in
theorem ggL_law_X4_notice : GoodIn wsL_law wsX4_notice := goodIn_r _ [471, 291, 88, 89, 530, 531, 532, 533, 534, 535, 536, 537, 538, 539, 540, 541, 542, 543, 544, 545, 546, 547, 548, 549, 550, 551, 552, 553, 554] (by decide +kernel) (by decide +kernel)
set_option maxRecDepth 20000 in
theorem gL_law_X4_notice : GoodIn wsL_law (wsV RL 105 RX4 yX4_notice wsX4_notice) := goodIn_app (goodIn_of _ (by decide +kernel)) ggL_law_X4_notice
set_option maxRecDepth 20000 in
theorem ggL_law_X3_rate : GoodIn wsL_law wsX3_rate := goodIn_r _ [475, 476, 477, 96, 97, 2, 98, 522, 523, 524, 525, 526, 527, 528, 529] (by decide +kernel) (by decide +kernel)
set_option maxRecDepth 20000 in
theorem gL_law_X3_rate : GoodIn wsL_law (wsV RL 106 RX3 yX3_rate wsX3_rate) := goodIn_app (goodIn_of _ (by decide +kernel)) ggL_law_X3_rate
set_option maxRecDepth 20000 in
theorem ggL_law_X4_rate : GoodIn wsL_law wsX4_rate := goodIn_r _ [481, 482, 483, 104, 105, 5, 106, 530, 531, 532, 533, 534, 535, 536, 537, 538, 539, 540, 541, 542, 543, 544, 545, 546, 547, 548, 549, 550, 551, 552, 553, 554] (by decide +kernel) (by decide +kernel)
set_option maxRecDepth 20000 in
theorem gL_law_X4_rate : GoodIn wsL_law (wsV RL 109 RX4 yX4_rate wsX4_rate) := goodIn_app (goodIn_of _ (by decide +kernel)) ggL_law_X4_rate
set_option maxRecDepth 20000 in
theorem ggL_law_X3_paid : GoodIn wsL_law wsX3_paid := goodIn_r _ [487, 95, 488, 489, 490, 2, 491, 25, 477, 492, 296, 297, 298, 299, 111, 112, 113, 114, 224, 27, 225, 226, 43, 237, 238, 239, 240, 17, 18, 19, 41, 212, 213, 214, 215, 209, 210, 522, 523, 524, 525, 526, 527, 528, 529, 555, 556, 557, 558, 559, 560, 561, 562, 563, 564] (by decide +kernel) (by decide +kernel)
set_option maxRecDepth 20000 in
theorem gL_law_X3_paid : GoodIn wsL_law (wsV RL 110 RX3 yX3_paid wsX3_paid) := goodIn_app (goodIn_of _ (by decide +kernel)) ggL_law_X3_paid
set_option maxRecDepth 20000 in
theorem ggL_law_X4_paid : GoodIn wsL_law wsX4_paid := goodIn_r _ [496, 103, 80, 483, 497, 279, 280, 281, 5, 282, 72, 267, 268, 269, 270, 69, 68, 530, 531, 532, 533, 534, 535, 536, 537, 538, 539, 540, 541, 542, 543, 544, 545, 546, 547, 548, 549, 550, 551, 552, 553, 554] (by decide +kernel) (by decide +kernel)
set_option maxRecDepth 20000 in
theorem gL_law_X4_paid : GoodIn wsL_law (wsV RL 114 RX4 yX4_paid wsX4_paid) := goodIn_app (goodIn_of _ (by decide +kernel)) ggL_law_X4_paid
set_option maxRecDepth 20000 in
theorem ggL_law_X3_open : GoodIn wsL_law wsX3_open := goodIn_r _ [501, 95, 25, 132, 133, 134, 2, 135, 23, 296, 297, 298, 299, 111, 112, 113, 114, 224, 27, 225, 226, 43, 217, 218, 219, 212, 213, 214, 215, 209, 210, 166, 167, 227, 228, 229, 522, 523, 524, 525, 526, 527, 528, 529, 555, 556, 557, 558, 559, 560, 561, 562, 563, 564] (by decide +kernel) (by decide +kernel)
set_option maxRecDepth 20000 in
theorem gL_law_X3_open : GoodIn wsL_law (wsV RL 115 RX3 yX3_open wsX3_open) := goodIn_app (goodIn_of _ (by decide +kernel)) ggL_law_X3_open
set_option maxRecDepth 20000 in
theorem ggL_law_X4_open : GoodIn wsL_law wsX4_open := goodIn_r _ [505, 103, 80, 141, 142, 143, 5, 144, 90, 267, 268, 269, 270, 69, 68, 530, 531, 532, 533, 534, 535, 536, 537, 538, 539, 540, 541, 542, 543, 544, 545, 546, 547, 548, 549, 550, 551, 552, 553, 554] (by decide +kernel) (by decide +kernel)
set_option maxRecDepth 20000 in
theorem gL_law_X4_open : GoodIn wsL_law (wsV RL 118 RX4 yX4_open wsX4_open) := goodIn_app (goodIn_of _ (by decide +kernel)) ggL_law_X4_open
set_option maxRecDepth 20000 in
theorem ggL_law_X3_holds : GoodIn wsL_law wsX3_holds := goodIn_r _ [509, 95, 25, 296, 297, 298, 2, 299, 111, 112, 113, 114, 224, 27, 225, 226, 43, 199, 200, 201, 202, 23, 203, 204, 205, 206, 207, 208, 209, 210, 211, 212, 213, 214, 215, 216, 217, 218, 219, 166, 167, 220, 221, 222, 223, 227, 228, 229, 230, 231, 232, 233, 234, 235, 236, 29, 522, 523, 524, 525, 526, 527, 528, 529, 555, 556, 557, 558, 559, 560, 561, 562, 563, 564] (by decide +kernel) (by decide +kernel)
set_option maxRecDepth 20000 in
theorem gL_law_X3_holds : GoodIn wsL_law (wsV RL 119 RX3 yX3_holds wsX3_holds) := goodIn_app (goodIn_of _ (by decide +kernel)) ggL_law_X3_holds
set_option maxRecDepth 20000 in
theorem ggL_law_X4_holds : GoodIn wsL_law wsX4_holds := goodIn_r _ [513, 103, 80, 259, 260, 261, 5, 262, 263, 264, 265, 266, 90, 73, 74, 69, 75, 76, 267, 268, 269, 270, 68, 271, 272, 273, 274, 71, 275, 276, 277, 278, 78, 77, 530, 531, 532, 533, 534, 535, 536, 537, 538, 539, 540, 541, 542, 543, 544, 545, 546, 547, 548, 549, 550, 551, 552, 553, 554] (by decide +kernel) (by decide +kernel)
set_option maxRecDepth 20000 in
theorem gL_law_X4_holds : GoodIn wsL_law (wsV RL 123 RX4 yX4_holds wsX4_holds) := goodIn_app (goodIn_of _ (by decide +kernel)) ggL_law_X4_holds
set_option maxRecDepth 20000 in
theorem ggL_law_X3_count : GoodIn wsL_law wsX3_count := goodIn_r _ [517, 23, 95, 33, 406, 407, 408, 2, 409, 25, 224, 27, 225, 226, 43, 522, 523, 524, 525, 526, 527, 528, 529, 565, 566, 567, 555, 556, 557, 558, 559, 560, 561, 562, 563, 564] (by decide +kernel) (by decide +kernel)
set_option maxRecDepth 20000 in
theorem gL_law_X3_count : GoodIn wsL_law (wsV RL 124 RX3 yX3_count wsX3_count) := goodIn_app (goodIn_of _ (by decide +kernel)) ggL_law_X3_count
set_option maxRecDepth 20000 in
theorem ggL_law_X4_count : GoodIn wsL_law wsX4_count := goodIn_r _ [521, 90, 103, 291, 414, 415, 416, 5, 417, 80, 530, 531, 532, 533, 534, 535, 536, 537, 538, 539, 540, 541, 542, 543, 544, 545, 546, 547, 548, 549, 550, 551, 552, 553, 554] (by decide +kernel) (by decide +kernel)
set_option maxRecDepth 20000 in
theorem gL_law_X4_count : GoodIn wsL_law (wsV RL 127 RX4 yX4_count wsX4_count) := goodIn_app (goodIn_of _ (by decide +kernel)) ggL_law_X4_count
