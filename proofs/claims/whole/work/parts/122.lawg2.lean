set_option maxRecDepth 20000 in
theorem ggL_law_X4_all : GoodIn wsL_law wsX4_all := goodIn_r _ [385, 103, 80, 386, 387, 388, 5, 389, 81, 90, 83, 84, 86, 82, 390, 391, 392, 393, 85, 263, 264, 265, 266, 73, 74, 69, 75, 76, 267, 268, 269, 270, 68, 255, 256, 257, 258, 79, 279, 280, 281, 282, 72, 394, 395, 396, 397, 271, 272, 273, 274, 71, 275, 276, 277, 278, 78, 77, 398, 399, 400, 401, 283, 284, 285, 286, 87, 287, 288, 289, 290, 291, 88, 89, 530, 531, 532, 533, 534, 535, 536, 537, 538, 539, 540, 541, 542, 543, 544, 545, 546, 547, 548, 549, 550, 551, 552, 553, 554] (by decide +kernel) (by decide +kernel)
set_option maxRecDepth 20000 in
theorem gL_law_X4_all : GoodIn wsL_law (wsV RL 76 RX4 yX4_all wsX4_all) := goodIn_app (goodIn_of _ (by decide +kernel)) ggL_law_X4_all
set_option maxRecDepth 20000 in
theorem ggL_law_X3_late : GoodIn wsL_law wsX3_late := goodIn_r _ [405, 25, 95, 37, 340, 111, 112, 113, 2, 114, 132, 133, 134, 135, 23, 196, 27, 197, 198, 44, 406, 407, 408, 409, 224, 225, 226, 43, 316, 317, 318, 319, 320, 36, 321, 322, 323, 324, 325, 60, 61, 213, 214, 215, 209, 210, 326, 327, 328, 53, 329, 330, 331, 332, 29, 227, 228, 229, 333, 334, 335, 55, 336, 337, 338, 339, 203, 204, 205, 206, 207, 208, 211, 212, 216, 217, 218, 219, 166, 167, 237, 238, 239, 240, 17, 18, 19, 41, 341, 342, 343, 344, 58, 59, 345, 346, 347, 348, 116, 117, 118, 349, 350, 351, 352, 353, 354, 355, 62, 63, 356, 357, 358, 359, 360, 361, 362, 363, 364, 365, 366, 367, 368, 369, 370, 371, 372, 21, 22, 373, 374, 375, 376, 377, 378, 195, 241, 242, 243, 244, 33, 115, 245, 32, 246, 247, 248, 48, 49, 249, 250, 379, 380, 381, 522, 523, 524, 525, 526, 527, 528, 529, 555, 556, 557, 558, 559, 560, 561, 562, 563, 564, 568, 569, 570, 571, 572, 573, 574, 575, 576, 577, 565, 566, 567] (by decide +kernel) (by decide +kernel)
set_option maxRecDepth 20000 in
theorem gL_law_X3_late : GoodIn wsL_law (wsV RL 77 RX3 yX3_late wsX3_late) := goodIn_app (goodIn_of _ (by decide +kernel)) ggL_law_X3_late
set_option maxRecDepth 20000 in
theorem ggL_law_X4_late : GoodIn wsL_law wsX4_late := goodIn_r _ [413, 103, 123, 124, 125, 5, 126, 141, 142, 143, 144, 90, 414, 415, 416, 417, 80, 255, 256, 257, 258, 79, 386, 387, 388, 389, 81, 83, 84, 86, 82, 390, 391, 392, 393, 85, 263, 264, 265, 266, 73, 74, 69, 75, 76, 267, 268, 269, 270, 68, 279, 280, 281, 282, 72, 394, 395, 396, 397, 271, 272, 273, 274, 71, 275, 276, 277, 278, 78, 77, 398, 399, 400, 401, 283, 284, 285, 286, 87, 287, 288, 289, 290, 291, 88, 89, 530, 531, 532, 533, 534, 535, 536, 537, 538, 539, 540, 541, 542, 543, 544, 545, 546, 547, 548, 549, 550, 551, 552, 553, 554] (by decide +kernel) (by decide +kernel)
set_option maxRecDepth 20000 in
theorem gL_law_X4_late : GoodIn wsL_law (wsV RL 80 RX4 yX4_late wsX4_late) := goodIn_app (goodIn_of _ (by decide +kernel)) ggL_law_X4_late
set_option maxRecDepth 20000 in
theorem ggL_law_X3_moved : GoodIn wsL_law wsX3_moved := goodIn_r _ [421, 95, 195, 227, 228, 2, 229, 522, 523, 524, 525, 526, 527, 528, 529] (by decide +kernel) (by decide +kernel)
set_option maxRecDepth 20000 in
theorem gL_law_X3_moved : GoodIn wsL_law (wsV RL 81 RX3 yX3_moved wsX3_moved) := goodIn_app (goodIn_of _ (by decide +kernel)) ggL_law_X3_moved
set_option maxRecDepth 20000 in
theorem ggL_law_X4_moved : GoodIn wsL_law wsX4_moved := goodIn_r _ [425, 103, 87, 530, 531, 532, 533, 534, 535, 536, 537, 538, 539, 540, 541, 542, 543, 544, 545, 546, 547, 548, 549, 550, 551, 552, 553, 554] (by decide +kernel) (by decide +kernel)
set_option maxRecDepth 20000 in
theorem gL_law_X4_moved : GoodIn wsL_law (wsV RL 84 RX4 yX4_moved wsX4_moved) := goodIn_app (goodIn_of _ (by decide +kernel)) ggL_law_X4_moved
set_option maxRecDepth 20000 in
theorem ggL_law_X3_start : GoodIn wsL_law wsX3_start := goodIn_r _ [429, 25, 296, 297, 298, 2, 299, 111, 112, 113, 114, 95, 224, 27, 225, 226, 43, 522, 523, 524, 525, 526, 527, 528, 529, 555, 556, 557, 558, 559, 560, 561, 562, 563, 564] (by decide +kernel) (by decide +kernel)
set_option maxRecDepth 20000 in
theorem gL_law_X3_start : GoodIn wsL_law (wsV RL 85 RX3 yX3_start wsX3_start) := goodIn_app (goodIn_of _ (by decide +kernel)) ggL_law_X3_start
set_option maxRecDepth 20000 in
theorem ggL_law_X4_start : GoodIn wsL_law wsX4_start := goodIn_r _ [433, 80, 123, 124, 125, 5, 126, 103, 530, 531, 532, 533, 534, 535, 536, 537, 538, 539, 540, 541, 542, 543, 544, 545, 546, 547, 548, 549, 550, 551, 552, 553, 554] (by decide +kernel) (by decide +kernel)
set_option maxRecDepth 20000 in
theorem gL_law_X4_start : GoodIn wsL_law (wsV RL 88 RX4 yX4_start wsX4_start) := goodIn_app (goodIn_of _ (by decide +kernel)) ggL_law_X4_start
set_option maxRecDepth 20000 in
theorem ggL_law_X3_least : GoodIn wsL_law wsX3_least := goodIn_r _ [437, 25, 95, 296, 297, 298, 2, 299, 111, 112, 113, 114, 224, 27, 225, 226, 43, 237, 238, 239, 240, 17, 18, 19, 41, 212, 213, 214, 215, 209, 210, 522, 523, 524, 525, 526, 527, 528, 529, 555, 556, 557, 558, 559, 560, 561, 562, 563, 564] (by decide +kernel) (by decide +kernel)
set_option maxRecDepth 20000 in
theorem gL_law_X3_least : GoodIn wsL_law (wsV RL 89 RX3 yX3_least wsX3_least) := goodIn_app (goodIn_of _ (by decide +kernel)) ggL_law_X3_least
set_option maxRecDepth 20000 in
theorem ggL_law_X4_least : GoodIn wsL_law wsX4_least := goodIn_r _ [441, 103, 80, 279, 280, 281, 5, 282, 72, 267, 268, 269, 270, 69, 68, 123, 124, 125, 126, 530, 531, 532, 533, 534, 535, 536, 537, 538, 539, 540, 541, 542, 543, 544, 545, 546, 547, 548, 549, 550, 551, 552, 553, 554] (by decide +kernel) (by decide +kernel)
set_option maxRecDepth 20000 in
theorem gL_law_X4_least : GoodIn wsL_law (wsV RL 92 RX4 yX4_least wsX4_least) := goodIn_app (goodIn_of _ (by decide +kernel)) ggL_law_X4_least
set_option maxRecDepth 20000 in
theorem ggL_law_X3_act : GoodIn wsL_law wsX3_act := goodIn_r _ [445, 25, 446, 447, 448, 111, 112, 113, 2, 114, 95, 96, 97, 98, 227, 228, 229, 224, 27, 225, 226, 43, 522, 523, 524, 525, 526, 527, 528, 529, 555, 556, 557, 558, 559, 560, 561, 562, 563, 564] (by decide +kernel) (by decide +kernel)
set_option maxRecDepth 20000 in
theorem gL_law_X3_act : GoodIn wsL_law (wsV RL 93 RX3 yX3_act wsX3_act) := goodIn_app (goodIn_of _ (by decide +kernel)) ggL_law_X3_act
set_option maxRecDepth 20000 in
theorem ggL_law_X4_act : GoodIn wsL_law wsX4_act := goodIn_r _ [452, 79, 80, 123, 124, 125, 5, 126, 103, 104, 105, 106, 530, 531, 532, 533, 534, 535, 536, 537, 538, 539, 540, 541, 542, 543, 544, 545, 546, 547, 548, 549, 550, 551, 552, 553, 554] (by decide +kernel) (by decide +kernel)
set_option maxRecDepth 20000 in
theorem gL_law_X4_act : GoodIn wsL_law (wsV RL 97 RX4 yX4_act wsX4_act) := goodIn_app (goodIn_of _ (by decide +kernel)) ggL_law_X4_act
set_option maxRecDepth 20000 in
theorem ggL_law_X3_state : GoodIn wsL_law wsX3_state := goodIn_r _ [456, 25, 111, 112, 113, 2, 114, 95, 522, 523, 524, 525, 526, 527, 528, 529, 555, 556, 557, 558, 559, 560, 561, 562, 563, 564] (by decide +kernel) (by decide +kernel)
set_option maxRecDepth 20000 in
theorem gL_law_X3_state : GoodIn wsL_law (wsV RL 98 RX3 yX3_state wsX3_state) := goodIn_app (goodIn_of _ (by decide +kernel)) ggL_law_X3_state
set_option maxRecDepth 20000 in
theorem ggL_law_X4_state : GoodIn wsL_law wsX4_state := goodIn_r _ [460, 79, 123, 124, 125, 5, 126, 103, 530, 531, 532, 533, 534, 535, 536, 537, 538, 539, 540, 541, 542, 543, 544, 545, 546, 547, 548, 549, 550, 551, 552, 553, 554] (by decide +kernel) (by decide +kernel)
set_option maxRecDepth 20000 in
theorem gL_law_X4_state : GoodIn wsL_law (wsV RL 101 RX4 yX4_state wsX4_state) := goodIn_app (goodIn_of _ (by decide +kernel)) ggL_law_X4_state
