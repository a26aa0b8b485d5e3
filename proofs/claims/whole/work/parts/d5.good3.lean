/-! ## The law: calls' words -/
set_option maxRecDepth 20000 in
theorem ggL_law_X4_follows : GoodIn wsL_law wsX4_follows := goodIn_r _ [595, 32, 19, 324, 325, 326, 2, 327, 18, 13, 104, 14, 328, 329, 330, 17, 331, 42, 332, 333, 334, 335, 336, 337, 338, 339, 340, 341, 342, 39, 40, 343, 344, 345, 346, 347, 348, 349, 350, 351, 352, 41, 353, 354, 355, 356, 357, 78, 53, 79, 358, 359, 360, 361, 362, 363, 364, 365, 366, 367, 368, 369, 370, 371, 372, 373, 374, 158, 159, 160, 375, 376, 377, 378, 379, 380, 381, 382, 383, 214, 215, 216, 384, 202, 203, 204, 31, 205, 162, 163, 164, 165, 76, 69, 67, 70, 166, 167, 168, 169, 170, 171, 172, 68, 206, 207, 208, 209, 210, 211, 212, 213, 217, 218, 219, 220, 680, 681, 682, 683, 684, 685, 686, 687, 688, 689, 711, 712, 713, 714, 715, 716, 717, 718, 719, 729, 730, 731, 732, 733, 734, 735] (by decide +kernel) (by decide +kernel)
set_option maxRecDepth 20000 in
theorem gL_law_X4_follows : GoodIn wsL_law (wsV RL 70 RX4 yX4_follows wsX4_follows) := goodIn_app (goodIn_of _ (by decide +kernel)) ggL_law_X4_follows
set_option maxRecDepth 20000 in
theorem ggL_law_X5_follows : GoodIn wsL_law wsX5_follows := goodIn_r _ [599, 95, 414, 415, 416, 5, 417, 418, 419, 92, 111, 85, 420, 421, 422, 423, 93, 424, 425, 426, 427, 428, 429, 430, 431, 432, 94, 433, 434, 435, 436, 84, 113, 114, 115, 437, 438, 439, 440, 441, 442, 443, 444, 445, 446, 447, 448, 449, 450, 451, 452, 453, 454, 455, 238, 239, 240, 241, 86, 242, 243, 244, 245, 246, 247, 248, 249, 236, 96, 97, 250, 251, 252, 253, 254, 255, 256, 98, 257, 258, 259, 260, 261, 262, 263, 264, 265, 266, 267, 268, 269, 270, 271, 272, 273, 274, 275, 276, 277, 278, 279, 280, 281, 282, 283, 284, 285, 286, 287, 288, 289, 290, 291, 308, 309, 310, 311, 690, 691, 692, 693, 694, 695, 696, 697, 698, 699, 700, 701, 702, 703, 704, 705, 706, 707, 708, 709, 710] (by decide +kernel) (by decide +kernel)
set_option maxRecDepth 20000 in
theorem gL_law_X5_follows : GoodIn wsL_law (wsV RL 73 RX5 yX5_follows wsX5_follows) := goodIn_app (goodIn_of _ (by decide +kernel)) ggL_law_X5_follows
set_option maxRecDepth 20000 in
theorem ggL_law_X4_couldBe : GoodIn wsL_law wsX4_couldBe := goodIn_r _ [603, 32, 19, 324, 325, 326, 2, 327, 18, 13, 104, 14, 328, 329, 330, 17, 331, 42, 332, 333, 334, 335, 336, 337, 338, 339, 340, 341, 342, 39, 40, 343, 344, 345, 346, 347, 348, 349, 350, 351, 352, 41, 353, 354, 355, 356, 357, 78, 53, 79, 358, 359, 360, 361, 362, 363, 364, 365, 366, 367, 368, 369, 370, 371, 372, 373, 374, 158, 159, 160, 375, 376, 377, 378, 379, 380, 381, 382, 383, 214, 215, 216, 384, 385, 386, 387, 31, 388, 162, 163, 164, 165, 76, 69, 67, 70, 166, 167, 168, 169, 170, 171, 172, 68, 206, 207, 208, 209, 210, 211, 212, 213, 217, 218, 219, 220, 680, 681, 682, 683, 684, 685, 686, 687, 688, 689, 711, 712, 713, 714, 715, 716, 717, 718, 719, 729, 730, 731, 732, 733, 734, 735] (by decide +kernel) (by decide +kernel)
set_option maxRecDepth 20000 in
theorem gL_law_X4_couldBe : GoodIn wsL_law (wsV RL 74 RX4 yX4_couldBe wsX4_couldBe) := goodIn_app (goodIn_of _ (by decide +kernel)) ggL_law_X4_couldBe
set_option maxRecDepth 20000 in
theorem ggL_law_X5_couldBe : GoodIn wsL_law wsX5_couldBe := goodIn_r _ [607, 414, 415, 416, 5, 417, 418, 419, 92, 95, 111, 85, 420, 421, 422, 423, 93, 424, 425, 426, 427, 428, 429, 430, 431, 432, 94, 433, 434, 435, 436, 84, 113, 114, 115, 437, 438, 439, 440, 441, 442, 443, 444, 445, 446, 447, 448, 449, 450, 451, 452, 453, 454, 455, 456, 457, 458, 459, 238, 239, 240, 241, 86, 242, 243, 244, 245, 246, 247, 248, 249, 236, 96, 97, 250, 251, 252, 253, 254, 255, 256, 98, 257, 258, 259, 260, 261, 262, 263, 264, 265, 266, 267, 268, 269, 270, 271, 272, 273, 274, 275, 276, 277, 278, 279, 280, 281, 282, 283, 284, 285, 286, 287, 288, 289, 290, 291, 690, 691, 692, 693, 694, 695, 696, 697, 698, 699, 700, 701, 702, 703, 704, 705, 706, 707, 708, 709, 710] (by decide +kernel) (by decide +kernel)
set_option maxRecDepth 20000 in
theorem gL_law_X5_couldBe : GoodIn wsL_law (wsV RL 77 RX5 yX5_couldBe wsX5_couldBe) := goodIn_app (goodIn_of _ (by decide +kernel)) ggL_law_X5_couldBe
set_option maxRecDepth 20000 in
theorem ggL_law_X4_measured : GoodIn wsL_law wsX4_measured := goodIn_r _ [611, 564, 32, 19, 565, 324, 325, 326, 2, 327, 18, 13, 104, 14, 328, 329, 330, 17, 331, 42, 332, 333, 334, 335, 336, 337, 338, 339, 340, 341, 342, 39, 40, 343, 344, 345, 346, 347, 348, 349, 350, 351, 352, 41, 353, 354, 355, 356, 357, 78, 53, 79, 358, 359, 360, 361, 362, 363, 364, 365, 366, 367, 368, 369, 370, 371, 372, 373, 374, 158, 159, 160, 375, 376, 377, 378, 379, 380, 381, 382, 383, 214, 215, 216, 384, 612, 170, 171, 31, 172, 68, 166, 167, 168, 613, 614, 615, 616, 76, 67, 680, 681, 682, 683, 684, 685, 686, 687, 688, 689, 711, 712, 713, 714, 715, 716, 717, 718, 719, 729, 730, 731, 732, 733, 734, 735] (by decide +kernel) (by decide +kernel)
set_option maxRecDepth 20000 in
theorem gL_law_X4_measured : GoodIn wsL_law (wsV RL 78 RX4 yX4_measured wsX4_measured) := goodIn_app (goodIn_of _ (by decide +kernel)) ggL_law_X4_measured
set_option maxRecDepth 20000 in
theorem ggL_law_X5_measured : GoodIn wsL_law wsX5_measured := goodIn_r _ [620, 572, 95, 571, 236, 113, 114, 5, 115, 414, 415, 416, 417, 418, 419, 92, 111, 85, 420, 421, 422, 423, 93, 424, 425, 426, 427, 428, 429, 430, 431, 432, 94, 433, 434, 435, 436, 84, 437, 438, 439, 440, 441, 442, 443, 444, 445, 446, 447, 448, 449, 450, 451, 452, 453, 454, 455, 238, 239, 240, 241, 86, 242, 243, 244, 245, 246, 247, 248, 249, 96, 97, 250, 251, 252, 253, 254, 255, 256, 98, 257, 258, 259, 260, 261, 262, 263, 264, 265, 266, 267, 268, 269, 270, 271, 272, 273, 274, 275, 276, 277, 278, 279, 280, 281, 282, 283, 284, 285, 286, 287, 288, 289, 290, 291, 690, 691, 692, 693, 694, 695, 696, 697, 698, 699, 700, 701, 702, 703, 704, 705, 706, 707, 708, 709, 710] (by decide +kernel) (by decide +kernel)
set_option maxRecDepth 20000 in
theorem gL_law_X5_measured : GoodIn wsL_law (wsV RL 82 RX5 yX5_measured wsX5_measured) := goodIn_app (goodIn_of _ (by decide +kernel)) ggL_law_X5_measured
set_option maxRecDepth 20000 in
theorem ggL_law_X4_converted : GoodIn wsL_law wsX4_converted := goodIn_r _ [624, 625, 564, 626, 324, 325, 326, 2, 327, 18, 13, 104, 14, 19, 328, 329, 330, 17, 331, 42, 332, 333, 334, 335, 336, 337, 338, 339, 340, 341, 342, 39, 40, 343, 344, 345, 346, 347, 348, 349, 350, 351, 352, 41, 353, 354, 355, 356, 357, 78, 53, 79, 358, 359, 360, 361, 362, 363, 364, 365, 366, 367, 368, 369, 370, 371, 372, 373, 374, 158, 159, 160, 375, 376, 377, 378, 379, 380, 381, 382, 383, 214, 215, 216, 384, 627, 628, 629, 630, 631, 632, 633, 634, 23, 635, 636, 637, 638, 639, 640, 641, 680, 681, 682, 683, 684, 685, 686, 687, 688, 689, 711, 712, 713, 714, 715, 716, 717, 718, 719, 720, 721, 722, 723, 724, 725] (by decide +kernel) (by decide +kernel)
set_option maxRecDepth 20000 in
theorem gL_law_X4_converted : GoodIn wsL_law (wsV RL 83 RX4 yX4_converted wsX4_converted) := goodIn_app (goodIn_of _ (by decide +kernel)) ggL_law_X4_converted
set_option maxRecDepth 20000 in
theorem ggL_law_X5_converted : GoodIn wsL_law wsX5_converted := goodIn_r _ [645, 646, 572, 95, 647, 86, 113, 114, 5, 115, 414, 415, 416, 417, 418, 419, 92, 111, 85, 420, 421, 422, 423, 93, 424, 425, 426, 427, 428, 429, 430, 431, 432, 94, 433, 434, 435, 436, 84, 437, 438, 439, 440, 441, 442, 443, 444, 445, 446, 447, 448, 449, 450, 451, 452, 453, 454, 455, 648, 649, 650, 284, 690, 691, 692, 693, 694, 695, 696, 697, 698, 699, 700, 701, 702, 703, 704, 705, 706, 707, 708, 709, 710] (by decide +kernel) (by decide +kernel)
set_option maxRecDepth 20000 in
theorem gL_law_X5_converted : GoodIn wsL_law (wsV RL 86 RX5 yX5_converted wsX5_converted) := goodIn_app (goodIn_of _ (by decide +kernel)) ggL_law_X5_converted
set_option maxRecDepth 20000 in
theorem ggL_law_X4_seed : GoodIn wsL_law wsX4_seed := goodIn_r _ [654, 103, 23, 680, 681, 682, 683, 684, 685, 686, 687, 688, 689, 720, 721, 722, 723, 724, 725] (by decide +kernel) (by decide +kernel)
set_option maxRecDepth 20000 in
theorem gL_law_X4_seed : GoodIn wsL_law (wsV RL 87 RX4 yX4_seed wsX4_seed) := goodIn_app (goodIn_of _ (by decide +kernel)) ggL_law_X4_seed
set_option maxRecDepth 20000 in
theorem ggL_law_X5_seed : GoodIn wsL_law wsX5_seed := goodIn_r _ [658, 110, 531, 690, 691, 692, 693, 694, 695, 696, 697, 698, 699, 700, 701, 702, 703, 704, 705, 706, 707, 708, 709, 710] (by decide +kernel) (by decide +kernel)
set_option maxRecDepth 20000 in
theorem gL_law_X5_seed : GoodIn wsL_law (wsV RL 90 RX5 yX5_seed wsX5_seed) := goodIn_app (goodIn_of _ (by decide +kernel)) ggL_law_X5_seed
set_option maxRecDepth 20000 in
theorem ggL_law_X4_keep : GoodIn wsL_law wsX4_keep := goodIn_r _ [662, 472, 24, 23, 28, 663, 396, 397, 22, 398, 399, 48, 400, 158, 159, 160, 49, 50, 664, 665, 666, 27, 667, 394, 680, 681, 682, 683, 684, 685, 686, 687, 688, 689, 720, 721, 722, 723, 724, 725, 726, 727, 728] (by decide +kernel) (by decide +kernel)
set_option maxRecDepth 20000 in
theorem gL_law_X4_keep : GoodIn wsL_law (wsV RL 91 RX4 yX4_keep wsX4_keep) := goodIn_app (goodIn_of _ (by decide +kernel)) ggL_law_X4_keep
set_option maxRecDepth 20000 in
theorem ggL_law_X5_keep : GoodIn wsL_law wsX5_keep := goodIn_r _ [671, 485, 86, 88, 89, 531, 91, 237, 113, 114, 5, 115, 453, 454, 455, 690, 691, 692, 693, 694, 695, 696, 697, 698, 699, 700, 701, 702, 703, 704, 705, 706, 707, 708, 709, 710] (by decide +kernel) (by decide +kernel)
set_option maxRecDepth 20000 in
theorem gL_law_X5_keep : GoodIn wsL_law (wsV RL 94 RX5 yX5_keep wsX5_keep) := goodIn_app (goodIn_of _ (by decide +kernel)) ggL_law_X5_keep
set_option maxRecDepth 20000 in
theorem ggL_law_X4_goBack : GoodIn wsL_law wsX4_goBack := goodIn_r _ [675, 472, 24, 323, 23, 28, 663, 396, 397, 22, 398, 399, 48, 400, 158, 159, 160, 49, 50, 664, 665, 666, 27, 667, 394, 477, 478, 479, 2, 480, 32, 152, 73, 74, 31, 75, 76, 67, 68, 77, 78, 53, 79, 153, 154, 155, 156, 71, 69, 157, 161, 162, 163, 164, 165, 70, 166, 167, 168, 169, 170, 171, 172, 173, 174, 175, 176, 177, 178, 179, 180, 181, 182, 183, 184, 185, 186, 187, 188, 189, 190, 191, 192, 193, 194, 195, 196, 197, 198, 199, 200, 201, 680, 681, 682, 683, 684, 685, 686, 687, 688, 689, 720, 721, 722, 723, 724, 725, 726, 727, 728, 729, 730, 731, 732, 733, 734, 735] (by decide +kernel) (by decide +kernel)
set_option maxRecDepth 20000 in
theorem gL_law_X4_goBack : GoodIn wsL_law (wsV RL 95 RX4 yX4_goBack wsX4_goBack) := goodIn_app (goodIn_of _ (by decide +kernel)) ggL_law_X4_goBack
set_option maxRecDepth 20000 in
theorem ggL_law_X5_goBack : GoodIn wsL_law wsX5_goBack := goodIn_r _ [679, 485, 91, 413, 88, 86, 89, 531, 237, 113, 114, 5, 115, 453, 454, 455, 690, 691, 692, 693, 694, 695, 696, 697, 698, 699, 700, 701, 702, 703, 704, 705, 706, 707, 708, 709, 710] (by decide +kernel) (by decide +kernel)
set_option maxRecDepth 20000 in
theorem gL_law_X5_goBack : GoodIn wsL_law (wsV RL 98 RX5 yX5_goBack wsX5_goBack) := goodIn_app (goodIn_of _ (by decide +kernel)) ggL_law_X5_goBack
