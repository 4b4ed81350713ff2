set_option maxRecDepth 20000 in
theorem ggL_law_X6_init : GoodIn wsL_law wsX6_init := goodIn_r _ [8, 9, 10, 11, 12, 13, 14, 15, 16, 17, 18, 19, 20, 21, 22, 23, 24, 25, 26, 27, 28, 29, 30, 31, 32, 33, 34, 35, 36, 37, 38, 39, 40, 41, 42, 43, 44, 45, 46, 47, 48, 49, 50, 51, 52, 53, 54, 55, 56, 57, 58, 59, 60, 61, 62, 63, 64, 65, 66, 67, 68, 69, 70, 71, 72, 73, 74, 75, 76, 77, 78, 79, 80, 81, 82, 500, 501, 502, 483, 484, 485, 486, 487, 488, 489, 490, 503, 504, 505, 506, 507, 508, 509, 510, 511, 512] (by decide +kernel) (by decide +kernel)
set_option maxRecDepth 20000 in
theorem gL_law_X6_init : GoodIn wsL_law (wsX6_init) := ggL_law_X6_init
set_option maxRecDepth 20000 in
theorem ggL_law_X7_init : GoodIn wsL_law wsX7_init := goodIn_r _ [85, 86, 10, 11, 42, 87, 88, 89, 90, 72, 91, 92, 93, 94, 95, 96, 5, 97, 98, 99, 100, 101, 102, 491, 492, 493, 494, 495, 496, 497, 498, 499] (by decide +kernel) (by decide +kernel)
set_option maxRecDepth 20000 in
theorem gL_law_X7_init : GoodIn wsL_law (wsX7_init) := ggL_law_X7_init
set_option maxRecDepth 20000 in
theorem ggL_law_X6_rate : GoodIn wsL_law wsX6_rate := goodIn_r _ [106, 15, 36, 37, 23, 27, 107, 108, 109, 14, 110, 44, 111, 112, 2, 113, 114, 115, 116, 117, 118, 119, 22, 120, 61, 121, 47, 48, 49, 50, 51, 52, 53, 122, 123, 124, 125, 126, 127, 128, 129, 130, 131, 132, 133, 134, 135, 136, 45, 137, 138, 139, 140, 43, 141, 142, 143, 144, 145, 146, 147, 26, 148, 66, 149, 150, 151, 152, 67, 483, 484, 485, 486, 487, 488, 489, 490, 500, 501, 502, 504, 505, 506] (by decide +kernel) (by decide +kernel)
set_option maxRecDepth 20000 in
theorem gL_law_X6_rate : GoodIn wsL_law (wsV RL 13 RX6 yX6_rate wsX6_rate) := goodIn_app (goodIn_of _ (by decide +kernel)) ggL_law_X6_rate
set_option maxRecDepth 20000 in
theorem ggL_law_X7_rate : GoodIn wsL_law wsX7_rate := goodIn_r _ [156, 157, 158, 159, 87, 160, 161, 5, 162, 163, 164, 165, 166, 167, 168, 169, 89, 88, 98, 99, 100, 101, 102, 491, 492, 493, 494, 495, 496, 497, 498, 499] (by decide +kernel) (by decide +kernel)
set_option maxRecDepth 20000 in
theorem gL_law_X7_rate : GoodIn wsL_law (wsV RL 17 RX7 yX7_rate wsX7_rate) := goodIn_app (goodIn_of _ (by decide +kernel)) ggL_law_X7_rate
set_option maxRecDepth 20000 in
theorem ggL_law_X6_snapshot : GoodIn wsL_law wsX6_snapshot := goodIn_r _ [173, 15, 19, 36, 27, 37, 107, 108, 109, 14, 110, 44, 174, 175, 176, 18, 177, 57, 178, 179, 180, 181, 182, 183, 26, 184, 66, 185, 47, 48, 49, 50, 51, 52, 53, 186, 187, 188, 189, 190, 191, 192, 193, 194, 195, 196, 197, 198, 199, 43, 141, 142, 143, 144, 200, 201, 202, 203, 204, 46, 205, 130, 131, 132, 133, 134, 135, 136, 45, 137, 138, 139, 140, 483, 484, 485, 486, 487, 488, 489, 490, 500, 501, 502, 503, 505, 506] (by decide +kernel) (by decide +kernel)
set_option maxRecDepth 20000 in
theorem gL_law_X6_snapshot : GoodIn wsL_law (wsV RL 18 RX6 yX6_snapshot wsX6_snapshot) := goodIn_app (goodIn_of _ (by decide +kernel)) ggL_law_X6_snapshot
set_option maxRecDepth 20000 in
theorem ggL_law_X7_snapshot : GoodIn wsL_law wsX7_snapshot := goodIn_r _ [209, 157, 88, 158, 159, 210, 211, 212, 5, 213, 214, 94, 95, 96, 97, 98, 99, 100, 101, 102, 166, 167, 168, 169, 89, 215, 216, 217, 218, 87, 491, 492, 493, 494, 495, 496, 497, 498, 499] (by decide +kernel) (by decide +kernel)
set_option maxRecDepth 20000 in
theorem gL_law_X7_snapshot : GoodIn wsL_law (wsV RL 22 RX7 yX7_snapshot wsX7_snapshot) := goodIn_app (goodIn_of _ (by decide +kernel)) ggL_law_X7_snapshot
set_option maxRecDepth 20000 in
theorem ggL_law_X6_power : GoodIn wsL_law wsX6_power := goodIn_r _ [222, 15, 223, 224, 225, 14, 226, 45, 483, 484, 485, 486, 487, 488, 489, 490, 500, 501, 502] (by decide +kernel) (by decide +kernel)
set_option maxRecDepth 20000 in
theorem gL_law_X6_power : GoodIn wsL_law (wsV RL 23 RX6 yX6_power wsX6_power) := goodIn_app (goodIn_of _ (by decide +kernel)) ggL_law_X6_power
set_option maxRecDepth 20000 in
theorem ggL_law_X7_power : GoodIn wsL_law wsX7_power := goodIn_r _ [230, 89, 491, 492, 493, 494, 495, 496, 497, 498, 499] (by decide +kernel) (by decide +kernel)
set_option maxRecDepth 20000 in
theorem gL_law_X7_power : GoodIn wsL_law (wsV RL 27 RX7 yX7_power wsX7_power) := goodIn_app (goodIn_of _ (by decide +kernel)) ggL_law_X7_power
set_option maxRecDepth 20000 in
theorem ggL_law_X6_restart : GoodIn wsL_law wsX6_restart := goodIn_r _ [234, 15, 27, 37, 36, 235, 236, 237, 14, 238, 44, 45, 239, 240, 18, 241, 186, 187, 188, 189, 190, 191, 192, 193, 194, 195, 196, 197, 198, 199, 43, 141, 142, 143, 144, 200, 201, 202, 203, 204, 46, 47, 48, 49, 50, 51, 52, 53, 242, 243, 244, 26, 245, 246, 150, 151, 152, 66, 67, 178, 179, 180, 247, 248, 249, 250, 251, 252, 22, 253, 122, 123, 124, 125, 126, 127, 128, 254, 255, 256, 257, 258, 259, 260, 261, 112, 2, 113, 262, 263, 264, 115, 116, 265, 266, 267, 268, 269, 270, 271, 483, 484, 485, 486, 487, 488, 489, 490, 500, 501, 502, 505, 506] (by decide +kernel) (by decide +kernel)
set_option maxRecDepth 20000 in
theorem gL_law_X6_restart : GoodIn wsL_law (wsV RL 28 RX6 yX6_restart wsX6_restart) := goodIn_app (goodIn_of _ (by decide +kernel)) ggL_law_X6_restart
set_option maxRecDepth 20000 in
theorem ggL_law_X7_restart : GoodIn wsL_law wsX7_restart := goodIn_r _ [275, 157, 89, 88, 87, 158, 159, 210, 211, 212, 5, 213, 214, 94, 95, 96, 97, 98, 99, 100, 101, 102, 276, 277, 278, 279, 160, 161, 162, 163, 164, 165, 491, 492, 493, 494, 495, 496, 497, 498, 499] (by decide +kernel) (by decide +kernel)
set_option maxRecDepth 20000 in
theorem gL_law_X7_restart : GoodIn wsL_law (wsV RL 31 RX7 yX7_restart wsX7_restart) := goodIn_app (goodIn_of _ (by decide +kernel)) ggL_law_X7_restart
set_option maxRecDepth 20000 in
theorem ggL_law_X6_isOn : GoodIn wsL_law wsX6_isOn := goodIn_r _ [283, 15, 107, 108, 109, 14, 110, 44, 483, 484, 485, 486, 487, 488, 489, 490, 500, 501, 502] (by decide +kernel) (by decide +kernel)
set_option maxRecDepth 20000 in
theorem gL_law_X6_isOn : GoodIn wsL_law (wsV RL 32 RX6 yX6_isOn wsX6_isOn) := goodIn_app (goodIn_of _ (by decide +kernel)) ggL_law_X6_isOn
set_option maxRecDepth 20000 in
theorem ggL_law_X7_isOn : GoodIn wsL_law wsX7_isOn := goodIn_r _ [287, 157, 491, 492, 493, 494, 495, 496, 497, 498, 499] (by decide +kernel) (by decide +kernel)
set_option maxRecDepth 20000 in
theorem gL_law_X7_isOn : GoodIn wsL_law (wsV RL 36 RX7 yX7_isOn wsX7_isOn) := goodIn_app (goodIn_of _ (by decide +kernel)) ggL_law_X7_isOn
set_option maxRecDepth 20000 in
theorem ggL_law_X6_word : GoodIn wsL_law wsX6_word := goodIn_r _ [291, 15, 292, 197, 198, 14, 199, 43, 141, 142, 143, 144, 483, 484, 485, 486, 487, 488, 489, 490, 500, 501, 502] (by decide +kernel) (by decide +kernel)
set_option maxRecDepth 20000 in
theorem gL_law_X6_word : GoodIn wsL_law (wsV RL 37 RX6 yX6_word wsX6_word) := goodIn_app (goodIn_of _ (by decide +kernel)) ggL_law_X6_word
set_option maxRecDepth 20000 in
theorem ggL_law_X7_word : GoodIn wsL_law wsX7_word := goodIn_r _ [296, 88, 491, 492, 493, 494, 495, 496, 497, 498, 499] (by decide +kernel) (by decide +kernel)
set_option maxRecDepth 20000 in
theorem gL_law_X7_word : GoodIn wsL_law (wsV RL 41 RX7 yX7_word wsX7_word) := goodIn_app (goodIn_of _ (by decide +kernel)) ggL_law_X7_word
set_option maxRecDepth 20000 in
theorem ggL_law_X6_spoil : GoodIn wsL_law wsX6_spoil := goodIn_r _ [300, 15, 301, 138, 139, 14, 140, 43, 141, 142, 143, 144, 483, 484, 485, 486, 487, 488, 489, 490, 500, 501, 502] (by decide +kernel) (by decide +kernel)
set_option maxRecDepth 20000 in
theorem gL_law_X6_spoil : GoodIn wsL_law (wsV RL 42 RX6 yX6_spoil wsX6_spoil) := goodIn_app (goodIn_of _ (by decide +kernel)) ggL_law_X6_spoil
set_option maxRecDepth 20000 in
theorem ggL_law_X7_spoil : GoodIn wsL_law wsX7_spoil := goodIn_r _ [305, 88, 491, 492, 493, 494, 495, 496, 497, 498, 499] (by decide +kernel) (by decide +kernel)
set_option maxRecDepth 20000 in
theorem gL_law_X7_spoil : GoodIn wsL_law (wsV RL 46 RX7 yX7_spoil wsX7_spoil) := goodIn_app (goodIn_of _ (by decide +kernel)) ggL_law_X7_spoil
set_option maxRecDepth 20000 in
theorem ggL_law_X6_rating : GoodIn wsL_law wsX6_rating := goodIn_r _ [309, 15, 27, 107, 108, 109, 14, 110, 44, 111, 112, 2, 113, 114, 115, 116, 145, 146, 147, 26, 148, 66, 483, 484, 485, 486, 487, 488, 489, 490, 500, 501, 502, 505, 506] (by decide +kernel) (by decide +kernel)
set_option maxRecDepth 20000 in
theorem gL_law_X6_rating : GoodIn wsL_law (wsV RL 47 RX6 yX6_rating wsX6_rating) := goodIn_app (goodIn_of _ (by decide +kernel)) ggL_law_X6_rating
set_option maxRecDepth 20000 in
theorem ggL_law_X7_rating : GoodIn wsL_law wsX7_rating := goodIn_r _ [313, 157, 87, 160, 161, 5, 162, 163, 164, 165, 491, 492, 493, 494, 495, 496, 497, 498, 499] (by decide +kernel) (by decide +kernel)
set_option maxRecDepth 20000 in
theorem gL_law_X7_rating : GoodIn wsL_law (wsV RL 51 RX7 yX7_rating wsX7_rating) := goodIn_app (goodIn_of _ (by decide +kernel)) ggL_law_X7_rating
set_option maxRecDepth 20000 in
theorem ggL_law_X6_weight : GoodIn wsL_law wsX6_weight := goodIn_r _ [317, 15, 27, 107, 108, 109, 14, 110, 44, 114, 115, 2, 116, 318, 319, 320, 26, 321, 67, 322, 483, 484, 485, 486, 487, 488, 489, 490, 500, 501, 502, 505, 506] (by decide +kernel) (by decide +kernel)
set_option maxRecDepth 20000 in
theorem gL_law_X6_weight : GoodIn wsL_law (wsV RL 52 RX6 yX6_weight wsX6_weight) := goodIn_app (goodIn_of _ (by decide +kernel)) ggL_law_X6_weight
set_option maxRecDepth 20000 in
theorem ggL_law_X7_weight : GoodIn wsL_law wsX7_weight := goodIn_r _ [326, 157, 90, 163, 164, 5, 165, 327, 328, 329, 330, 331, 332, 333, 334, 335, 87, 491, 492, 493, 494, 495, 496, 497, 498, 499] (by decide +kernel) (by decide +kernel)
set_option maxRecDepth 20000 in
theorem gL_law_X7_weight : GoodIn wsL_law (wsV RL 55 RX7 yX7_weight wsX7_weight) := goodIn_app (goodIn_of _ (by decide +kernel)) ggL_law_X7_weight
set_option maxRecDepth 20000 in
theorem ggL_law_X6_neighbour : GoodIn wsL_law wsX6_neighbour := goodIn_r _ [339, 15, 31, 27, 107, 108, 109, 14, 110, 44, 114, 115, 2, 116, 340, 341, 342, 30, 343, 344, 345, 346, 347, 74, 348, 319, 320, 26, 321, 67, 322, 349, 350, 351, 352, 73, 71, 353, 354, 355, 356, 357, 358, 359, 360, 483, 484, 485, 486, 487, 488, 489, 490, 500, 501, 502, 507, 508, 509, 505, 506] (by decide +kernel) (by decide +kernel)
set_option maxRecDepth 20000 in
theorem gL_law_X6_neighbour : GoodIn wsL_law (wsV RL 56 RX6 yX6_neighbour wsX6_neighbour) := goodIn_app (goodIn_of _ (by decide +kernel)) ggL_law_X6_neighbour
set_option maxRecDepth 20000 in
theorem ggL_law_X7_neighbour : GoodIn wsL_law wsX7_neighbour := goodIn_r _ [364, 157, 163, 164, 5, 165, 327, 328, 329, 330, 90, 331, 332, 333, 334, 335, 87, 365, 366, 367, 368, 369, 370, 371, 372, 491, 492, 493, 494, 495, 496, 497, 498, 499] (by decide +kernel) (by decide +kernel)
set_option maxRecDepth 20000 in
theorem gL_law_X7_neighbour : GoodIn wsL_law (wsV RL 59 RX7 yX7_neighbour wsX7_neighbour) := goodIn_app (goodIn_of _ (by decide +kernel)) ggL_law_X7_neighbour
set_option maxRecDepth 20000 in
theorem ggL_law_X6_score : GoodIn wsL_law wsX6_score := goodIn_r _ [376, 15, 377, 378, 27, 107, 108, 109, 14, 110, 44, 111, 112, 2, 113, 114, 115, 116, 379, 380, 381, 26, 382, 383, 384, 385, 386, 66, 387, 319, 320, 321, 67, 322, 483, 484, 485, 486, 487, 488, 489, 490, 500, 501, 502, 505, 506] (by decide +kernel) (by decide +kernel)
set_option maxRecDepth 20000 in
theorem gL_law_X6_score : GoodIn wsL_law (wsV RL 60 RX6 yX6_score wsX6_score) := goodIn_app (goodIn_of _ (by decide +kernel)) ggL_law_X6_score
set_option maxRecDepth 20000 in
theorem ggL_law_X7_score : GoodIn wsL_law wsX7_score := goodIn_r _ [391, 157, 392, 393, 91, 160, 161, 5, 162, 163, 164, 165, 394, 395, 396, 397, 90, 87, 327, 328, 329, 330, 331, 332, 333, 334, 335, 491, 492, 493, 494, 495, 496, 497, 498, 499] (by decide +kernel) (by decide +kernel)
set_option maxRecDepth 20000 in
theorem gL_law_X7_score : GoodIn wsL_law (wsV RL 64 RX7 yX7_score wsX7_score) := goodIn_app (goodIn_of _ (by decide +kernel)) ggL_law_X7_score
set_option maxRecDepth 20000 in
theorem ggL_law_X6_best : GoodIn wsL_law wsX6_best := goodIn_r _ [401, 15, 31, 27, 107, 108, 109, 14, 110, 44, 111, 112, 2, 113, 402, 403, 404, 30, 405, 344, 345, 346, 347, 74, 406, 146, 147, 26, 148, 66, 407, 380, 381, 382, 383, 384, 385, 386, 387, 319, 320, 321, 67, 322, 349, 350, 351, 352, 73, 71, 353, 354, 355, 356, 357, 358, 359, 360, 483, 484, 485, 486, 487, 488, 489, 490, 500, 501, 502, 507, 508, 509, 505, 506] (by decide +kernel) (by decide +kernel)
set_option maxRecDepth 20000 in
theorem gL_law_X6_best : GoodIn wsL_law (wsV RL 65 RX6 yX6_best wsX6_best) := goodIn_app (goodIn_of _ (by decide +kernel)) ggL_law_X6_best
set_option maxRecDepth 20000 in
theorem ggL_law_X7_best : GoodIn wsL_law wsX7_best := goodIn_r _ [411, 157, 91, 160, 161, 5, 162, 394, 395, 396, 397, 90, 87, 327, 328, 329, 330, 331, 332, 333, 334, 335, 412, 413, 414, 415, 491, 492, 493, 494, 495, 496, 497, 498, 499] (by decide +kernel) (by decide +kernel)
set_option maxRecDepth 20000 in
theorem gL_law_X7_best : GoodIn wsL_law (wsV RL 68 RX7 yX7_best wsX7_best) := goodIn_app (goodIn_of _ (by decide +kernel)) ggL_law_X7_best
set_option maxRecDepth 20000 in
theorem ggL_law_X6_reads : GoodIn wsL_law wsX6_reads := goodIn_r _ [419, 15, 35, 27, 107, 108, 109, 14, 110, 44, 111, 112, 2, 113, 420, 421, 422, 34, 423, 82, 424, 425, 426, 427, 81, 80, 428, 345, 346, 30, 347, 74, 429, 146, 147, 26, 148, 66, 430, 341, 342, 343, 344, 348, 319, 320, 321, 67, 322, 349, 350, 351, 352, 73, 71, 431, 432, 433, 434, 435, 358, 359, 360, 436, 437, 438, 439, 440, 441, 442, 443, 357, 444, 354, 355, 356, 445, 446, 447, 448, 449, 380, 381, 382, 383, 384, 385, 386, 387, 450, 451, 452, 453, 483, 484, 485, 486, 487, 488, 489, 490, 500, 501, 502, 510, 511, 512, 507, 508, 509, 505, 506] (by decide +kernel) (by decide +kernel)
set_option maxRecDepth 20000 in
theorem gL_law_X6_reads : GoodIn wsL_law (wsV RL 69 RX6 yX6_reads wsX6_reads) := goodIn_app (goodIn_of _ (by decide +kernel)) ggL_law_X6_reads
set_option maxRecDepth 20000 in
theorem ggL_law_X7_reads : GoodIn wsL_law wsX7_reads := goodIn_r _ [457, 157, 93, 87, 90, 160, 161, 5, 162, 394, 395, 396, 397, 91, 327, 328, 329, 330, 331, 332, 333, 334, 335, 365, 366, 367, 368, 369, 370, 371, 372, 458, 459, 460, 461, 491, 492, 493, 494, 495, 496, 497, 498, 499] (by decide +kernel) (by decide +kernel)
set_option maxRecDepth 20000 in
theorem gL_law_X7_reads : GoodIn wsL_law (wsV RL 72 RX7 yX7_reads wsX7_reads) := goodIn_app (goodIn_of _ (by decide +kernel)) ggL_law_X7_reads
set_option maxRecDepth 20000 in
theorem ggL_law_X6_share : GoodIn wsL_law wsX6_share := goodIn_r _ [465, 15, 377, 378, 27, 107, 108, 109, 14, 110, 44, 111, 112, 2, 113, 114, 115, 116, 466, 384, 385, 26, 386, 66, 387, 319, 320, 321, 67, 322, 483, 484, 485, 486, 487, 488, 489, 490, 500, 501, 502, 505, 506] (by decide +kernel) (by decide +kernel)
set_option maxRecDepth 20000 in
theorem gL_law_X6_share : GoodIn wsL_law (wsV RL 73 RX6 yX6_share wsX6_share) := goodIn_app (goodIn_of _ (by decide +kernel)) ggL_law_X6_share
set_option maxRecDepth 20000 in
theorem ggL_law_X7_share : GoodIn wsL_law wsX7_share := goodIn_r _ [470, 157, 392, 393, 90, 87, 160, 161, 5, 162, 163, 164, 165, 327, 328, 329, 330, 331, 332, 333, 334, 335, 491, 492, 493, 494, 495, 496, 497, 498, 499] (by decide +kernel) (by decide +kernel)
set_option maxRecDepth 20000 in
theorem gL_law_X7_share : GoodIn wsL_law (wsV RL 77 RX7 yX7_share wsX7_share) := goodIn_app (goodIn_of _ (by decide +kernel)) ggL_law_X7_share
set_option maxRecDepth 20000 in
theorem ggL_law_X6_number : GoodIn wsL_law wsX6_number := goodIn_r _ [474, 15, 36, 37, 27, 107, 108, 109, 14, 110, 44, 475, 476, 477, 26, 478, 66, 483, 484, 485, 486, 487, 488, 489, 490, 500, 501, 502, 505, 506] (by decide +kernel) (by decide +kernel)
set_option maxRecDepth 20000 in
theorem gL_law_X6_number : GoodIn wsL_law (wsV RL 78 RX6 yX6_number wsX6_number) := goodIn_app (goodIn_of _ (by decide +kernel)) ggL_law_X6_number
set_option maxRecDepth 20000 in
theorem ggL_law_X7_number : GoodIn wsL_law wsX7_number := goodIn_r _ [482, 157, 87, 158, 159, 491, 492, 493, 494, 495, 496, 497, 498, 499] (by decide +kernel) (by decide +kernel)
set_option maxRecDepth 20000 in
theorem gL_law_X7_number : GoodIn wsL_law (wsV RL 81 RX7 yX7_number wsX7_number) := goodIn_app (goodIn_of _ (by decide +kernel)) ggL_law_X7_number
