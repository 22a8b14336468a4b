set_option maxRecDepth 20000 in
theorem ggL_law_X3_noise : GoodIn wsL_law wsX3_noise := goodIn_r _ [164, 25, 111, 112, 113, 2, 114, 95, 132, 133, 134, 135, 23, 165, 166, 167, 522, 523, 524, 525, 526, 527, 528, 529, 555, 556, 557, 558, 559, 560, 561, 562, 563, 564] (by decide +kernel) (by decide +kernel)
set_option maxRecDepth 20000 in
theorem gL_law_X3_noise : GoodIn wsL_law (wsV RL 45 RX3 yX3_noise wsX3_noise) := goodIn_app (goodIn_of _ (by decide +kernel)) ggL_law_X3_noise
set_option maxRecDepth 20000 in
theorem ggL_law_X4_noise : GoodIn wsL_law wsX4_noise := goodIn_r _ [171, 75, 76, 123, 124, 125, 5, 126, 103, 141, 142, 143, 144, 90, 530, 531, 532, 533, 534, 535, 536, 537, 538, 539, 540, 541, 542, 543, 544, 545, 546, 547, 548, 549, 550, 551, 552, 553, 554] (by decide +kernel) (by decide +kernel)
set_option maxRecDepth 20000 in
theorem gL_law_X4_noise : GoodIn wsL_law (wsV RL 48 RX4 yX4_noise wsX4_noise) := goodIn_app (goodIn_of _ (by decide +kernel)) ggL_law_X4_noise
set_option maxRecDepth 20000 in
theorem ggL_law_X3_crew : GoodIn wsL_law wsX3_crew := goodIn_r _ [175, 25, 111, 112, 113, 2, 114, 95, 176, 177, 178, 522, 523, 524, 525, 526, 527, 528, 529, 555, 556, 557, 558, 559, 560, 561, 562, 563, 564] (by decide +kernel) (by decide +kernel)
set_option maxRecDepth 20000 in
theorem gL_law_X3_crew : GoodIn wsL_law (wsV RL 49 RX3 yX3_crew wsX3_crew) := goodIn_app (goodIn_of _ (by decide +kernel)) ggL_law_X3_crew
set_option maxRecDepth 20000 in
theorem ggL_law_X4_crew : GoodIn wsL_law wsX4_crew := goodIn_r _ [182, 77, 123, 124, 125, 5, 126, 103, 104, 105, 106, 530, 531, 532, 533, 534, 535, 536, 537, 538, 539, 540, 541, 542, 543, 544, 545, 546, 547, 548, 549, 550, 551, 552, 553, 554] (by decide +kernel) (by decide +kernel)
set_option maxRecDepth 20000 in
theorem gL_law_X4_crew : GoodIn wsL_law (wsV RL 53 RX4 yX4_crew wsX4_crew) := goodIn_app (goodIn_of _ (by decide +kernel)) ggL_law_X4_crew
set_option maxRecDepth 20000 in
theorem ggL_law_X3_rest : GoodIn wsL_law wsX3_rest := goodIn_r _ [186, 29, 176, 177, 2, 178, 96, 97, 98, 522, 523, 524, 525, 526, 527, 528, 529] (by decide +kernel) (by decide +kernel)
set_option maxRecDepth 20000 in
theorem gL_law_X3_rest : GoodIn wsL_law (wsV RL 54 RX3 yX3_rest wsX3_rest) := goodIn_app (goodIn_of _ (by decide +kernel)) ggL_law_X3_rest
set_option maxRecDepth 20000 in
theorem ggL_law_X4_rest : GoodIn wsL_law wsX4_rest := goodIn_r _ [190, 78, 104, 105, 5, 106, 530, 531, 532, 533, 534, 535, 536, 537, 538, 539, 540, 541, 542, 543, 544, 545, 546, 547, 548, 549, 550, 551, 552, 553, 554] (by decide +kernel) (by decide +kernel)
set_option maxRecDepth 20000 in
theorem gL_law_X4_rest : GoodIn wsL_law (wsV RL 57 RX4 yX4_rest wsX4_rest) := goodIn_app (goodIn_of _ (by decide +kernel)) ggL_law_X4_rest
set_option maxRecDepth 20000 in
theorem ggL_law_X3_run : GoodIn wsL_law wsX3_run := goodIn_r _ [194, 25, 23, 20, 21, 18, 22, 195, 111, 112, 113, 2, 114, 95, 196, 27, 197, 198, 44, 199, 200, 201, 202, 203, 204, 205, 206, 207, 208, 209, 210, 211, 212, 213, 214, 215, 216, 217, 218, 219, 166, 167, 220, 221, 222, 223, 224, 225, 226, 43, 227, 228, 229, 230, 231, 232, 233, 234, 235, 236, 29, 237, 238, 239, 240, 17, 19, 41, 241, 242, 243, 244, 33, 115, 116, 117, 118, 245, 32, 246, 247, 248, 48, 49, 249, 250, 522, 523, 524, 525, 526, 527, 528, 529, 555, 556, 557, 558, 559, 560, 561, 562, 563, 564, 565, 566, 567] (by decide +kernel) (by decide +kernel)
set_option maxRecDepth 20000 in
theorem gL_law_X3_run : GoodIn wsL_law (wsV RL 58 RX3 yX3_run wsX3_run) := goodIn_app (goodIn_of _ (by decide +kernel)) ggL_law_X3_run
set_option maxRecDepth 20000 in
theorem ggL_law_X4_run : GoodIn wsL_law wsX4_run := goodIn_r _ [254, 90, 123, 124, 125, 5, 126, 103, 255, 256, 257, 258, 79, 259, 260, 261, 262, 80, 263, 264, 265, 266, 73, 74, 69, 75, 76, 267, 268, 269, 270, 68, 271, 272, 273, 274, 71, 275, 276, 277, 278, 78, 77, 279, 280, 281, 282, 72, 283, 284, 285, 286, 87, 287, 288, 289, 290, 291, 88, 89, 530, 531, 532, 533, 534, 535, 536, 537, 538, 539, 540, 541, 542, 543, 544, 545, 546, 547, 548, 549, 550, 551, 552, 553, 554] (by decide +kernel) (by decide +kernel)
set_option maxRecDepth 20000 in
theorem gL_law_X4_run : GoodIn wsL_law (wsV RL 62 RX4 yX4_run wsX4_run) := goodIn_app (goodIn_of _ (by decide +kernel)) ggL_law_X4_run
set_option maxRecDepth 20000 in
theorem ggL_law_X3_drop : GoodIn wsL_law wsX3_drop := goodIn_r _ [295, 25, 195, 296, 297, 298, 2, 299, 111, 112, 113, 114, 95, 224, 27, 225, 226, 43, 196, 197, 198, 44, 241, 242, 243, 244, 33, 115, 116, 117, 118, 245, 32, 246, 247, 248, 48, 49, 249, 250, 17, 18, 19, 522, 523, 524, 525, 526, 527, 528, 529, 555, 556, 557, 558, 559, 560, 561, 562, 563, 564, 565, 566, 567] (by decide +kernel) (by decide +kernel)
set_option maxRecDepth 20000 in
theorem gL_law_X3_drop : GoodIn wsL_law (wsV RL 63 RX3 yX3_drop wsX3_drop) := goodIn_app (goodIn_of _ (by decide +kernel)) ggL_law_X3_drop
set_option maxRecDepth 20000 in
theorem ggL_law_X4_drop : GoodIn wsL_law wsX4_drop := goodIn_r _ [303, 80, 123, 124, 125, 5, 126, 103, 255, 256, 257, 258, 79, 283, 284, 285, 286, 87, 287, 288, 289, 290, 291, 88, 89, 530, 531, 532, 533, 534, 535, 536, 537, 538, 539, 540, 541, 542, 543, 544, 545, 546, 547, 548, 549, 550, 551, 552, 553, 554] (by decide +kernel) (by decide +kernel)
set_option maxRecDepth 20000 in
theorem gL_law_X4_drop : GoodIn wsL_law (wsV RL 67 RX4 yX4_drop wsX4_drop) := goodIn_app (goodIn_of _ (by decide +kernel)) ggL_law_X4_drop
set_option maxRecDepth 20000 in
theorem ggL_law_X3_may : GoodIn wsL_law wsX3_may := goodIn_r _ [307, 111, 112, 113, 2, 114, 95, 132, 133, 134, 135, 23, 199, 200, 201, 202, 25, 203, 27, 204, 205, 206, 207, 208, 209, 210, 211, 212, 213, 214, 215, 216, 217, 218, 219, 166, 167, 220, 221, 222, 223, 224, 225, 226, 43, 227, 228, 229, 230, 231, 232, 233, 234, 235, 236, 29, 522, 523, 524, 525, 526, 527, 528, 529, 555, 556, 557, 558, 559, 560, 561, 562, 563, 564] (by decide +kernel) (by decide +kernel)
set_option maxRecDepth 20000 in
theorem gL_law_X3_may : GoodIn wsL_law (wsV RL 68 RX3 yX3_may wsX3_may) := goodIn_app (goodIn_of _ (by decide +kernel)) ggL_law_X3_may
set_option maxRecDepth 20000 in
theorem ggL_law_X4_may : GoodIn wsL_law wsX4_may := goodIn_r _ [311, 123, 124, 125, 5, 126, 103, 141, 142, 143, 144, 90, 259, 260, 261, 262, 80, 263, 264, 265, 266, 73, 74, 69, 75, 76, 267, 268, 269, 270, 68, 271, 272, 273, 274, 71, 275, 276, 277, 278, 78, 77, 530, 531, 532, 533, 534, 535, 536, 537, 538, 539, 540, 541, 542, 543, 544, 545, 546, 547, 548, 549, 550, 551, 552, 553, 554] (by decide +kernel) (by decide +kernel)
set_option maxRecDepth 20000 in
theorem gL_law_X4_may : GoodIn wsL_law (wsV RL 71 RX4 yX4_may wsX4_may) := goodIn_app (goodIn_of _ (by decide +kernel)) ggL_law_X4_may
set_option maxRecDepth 20000 in
theorem ggL_law_X3_all : GoodIn wsL_law wsX3_all := goodIn_r _ [315, 95, 37, 316, 317, 318, 2, 319, 25, 320, 36, 321, 322, 323, 324, 325, 60, 61, 213, 27, 214, 215, 209, 210, 326, 327, 328, 53, 329, 330, 331, 332, 29, 227, 228, 229, 333, 334, 335, 55, 336, 337, 338, 339, 23, 340, 196, 197, 198, 44, 203, 204, 205, 206, 207, 208, 211, 212, 216, 217, 218, 219, 166, 167, 237, 238, 239, 240, 17, 18, 19, 41, 341, 342, 343, 344, 58, 59, 345, 346, 347, 348, 116, 117, 118, 349, 350, 351, 352, 353, 354, 355, 62, 63, 356, 357, 358, 359, 360, 361, 362, 363, 364, 365, 366, 367, 368, 369, 370, 371, 372, 21, 22, 373, 374, 375, 376, 377, 378, 195, 241, 242, 243, 244, 33, 115, 245, 32, 246, 247, 248, 48, 49, 249, 250, 379, 380, 381, 522, 523, 524, 525, 526, 527, 528, 529, 568, 569, 570, 571, 572, 573, 574, 575, 576, 577, 555, 556, 557, 558, 559, 560, 561, 562, 563, 564, 565, 566, 567] (by decide +kernel) (by decide +kernel)
set_option maxRecDepth 20000 in
theorem gL_law_X3_all : GoodIn wsL_law (wsV RL 72 RX3 yX3_all wsX3_all) := goodIn_app (goodIn_of _ (by decide +kernel)) ggL_law_X3_all
