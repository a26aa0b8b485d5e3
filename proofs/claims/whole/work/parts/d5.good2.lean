/-! ## The law: calls' words -/
set_option maxRecDepth 20000 in
theorem ggL_law_X4_scale : GoodIn wsL_law wsX4_scale := goodIn_r _ [489, 472, 103, 28, 23, 389, 390, 391, 27, 392, 60, 393, 394, 395, 396, 397, 22, 398, 399, 48, 400, 158, 159, 160, 49, 50, 490, 491, 492, 493, 680, 681, 682, 683, 684, 685, 686, 687, 688, 689, 720, 721, 722, 723, 724, 725, 726, 727, 728] (by decide +kernel) (by decide +kernel)
set_option maxRecDepth 20000 in
theorem gL_law_X4_scale : GoodIn wsL_law (wsV RL 39 RX4 yX4_scale wsX4_scale) := goodIn_app (goodIn_of _ (by decide +kernel)) ggL_law_X4_scale
set_option maxRecDepth 20000 in
theorem ggL_law_X5_scale : GoodIn wsL_law wsX5_scale := goodIn_r _ [497, 485, 110, 86, 498, 499, 5, 500, 113, 114, 115, 460, 461, 462, 463, 237, 87, 453, 454, 455, 690, 691, 692, 693, 694, 695, 696, 697, 698, 699, 700, 701, 702, 703, 704, 705, 706, 707, 708, 709, 710] (by decide +kernel) (by decide +kernel)
set_option maxRecDepth 20000 in
theorem gL_law_X5_scale : GoodIn wsL_law (wsV RL 43 RX5 yX5_scale wsX5_scale) := goodIn_app (goodIn_of _ (by decide +kernel)) ggL_law_X5_scale
set_option maxRecDepth 20000 in
theorem ggL_law_X4_drift : GoodIn wsL_law wsX4_drift := goodIn_r _ [504, 103, 23, 505, 506, 507, 2, 508, 28, 19, 32, 389, 390, 391, 27, 392, 60, 393, 394, 395, 396, 397, 22, 398, 399, 48, 400, 158, 159, 160, 49, 50, 509, 510, 511, 512, 513, 514, 515, 516, 517, 518, 52, 53, 54, 385, 386, 387, 31, 388, 162, 163, 164, 165, 76, 69, 67, 70, 166, 167, 168, 169, 170, 171, 172, 68, 206, 207, 208, 209, 210, 211, 212, 213, 214, 215, 216, 217, 218, 219, 220, 401, 402, 403, 404, 405, 406, 407, 408, 153, 154, 155, 156, 71, 157, 161, 173, 174, 175, 176, 177, 178, 179, 180, 181, 182, 183, 184, 185, 186, 187, 188, 189, 190, 191, 192, 193, 194, 195, 196, 197, 198, 199, 200, 201, 680, 681, 682, 683, 684, 685, 686, 687, 688, 689, 720, 721, 722, 723, 724, 725, 726, 727, 728, 729, 730, 731, 732, 733, 734, 735] (by decide +kernel) (by decide +kernel)
set_option maxRecDepth 20000 in
theorem gL_law_X4_drift : GoodIn wsL_law (wsV RL 44 RX4 yX4_drift wsX4_drift) := goodIn_app (goodIn_of _ (by decide +kernel)) ggL_law_X4_drift
set_option maxRecDepth 20000 in
theorem ggL_law_X5_drift : GoodIn wsL_law wsX5_drift := goodIn_r _ [522, 110, 86, 113, 114, 5, 115, 523, 524, 525, 526, 95, 527, 528, 529, 530, 531, 532, 533, 534, 535, 456, 457, 458, 459, 238, 239, 240, 241, 242, 243, 244, 245, 246, 247, 248, 249, 236, 96, 97, 250, 251, 252, 253, 254, 255, 256, 98, 257, 258, 259, 260, 261, 262, 263, 264, 265, 266, 267, 268, 269, 270, 271, 272, 273, 274, 275, 276, 277, 278, 279, 280, 281, 282, 283, 284, 285, 286, 287, 288, 289, 290, 291, 460, 461, 462, 463, 237, 87, 453, 454, 455, 464, 465, 466, 467, 690, 691, 692, 693, 694, 695, 696, 697, 698, 699, 700, 701, 702, 703, 704, 705, 706, 707, 708, 709, 710] (by decide +kernel) (by decide +kernel)
set_option maxRecDepth 20000 in
theorem gL_law_X5_drift : GoodIn wsL_law (wsV RL 47 RX5 yX5_drift wsX5_drift) := goodIn_app (goodIn_of _ (by decide +kernel)) ggL_law_X5_drift
set_option maxRecDepth 20000 in
theorem ggL_law_X4_undo : GoodIn wsL_law wsX4_undo := goodIn_r _ [539, 103, 28, 323, 23, 540, 541, 542, 27, 543, 393, 394, 60, 544, 545, 192, 546, 395, 396, 397, 22, 398, 399, 48, 400, 158, 159, 160, 49, 50, 477, 478, 479, 2, 480, 32, 152, 73, 74, 31, 75, 76, 67, 68, 77, 78, 53, 79, 153, 154, 155, 156, 71, 69, 157, 161, 162, 163, 164, 165, 70, 166, 167, 168, 169, 170, 171, 172, 173, 174, 175, 176, 177, 178, 179, 180, 181, 182, 183, 184, 185, 186, 187, 188, 189, 190, 191, 193, 194, 195, 196, 197, 198, 199, 200, 201, 680, 681, 682, 683, 684, 685, 686, 687, 688, 689, 726, 727, 728, 720, 721, 722, 723, 724, 725, 729, 730, 731, 732, 733, 734, 735] (by decide +kernel) (by decide +kernel)
set_option maxRecDepth 20000 in
theorem gL_law_X4_undo : GoodIn wsL_law (wsV RL 48 RX4 yX4_undo wsX4_undo) := goodIn_app (goodIn_of _ (by decide +kernel)) ggL_law_X4_undo
set_option maxRecDepth 20000 in
theorem ggL_law_X5_undo : GoodIn wsL_law wsX5_undo := goodIn_r _ [550, 110, 237, 413, 87, 86, 113, 114, 5, 115, 453, 454, 455, 690, 691, 692, 693, 694, 695, 696, 697, 698, 699, 700, 701, 702, 703, 704, 705, 706, 707, 708, 709, 710] (by decide +kernel) (by decide +kernel)
set_option maxRecDepth 20000 in
theorem gL_law_X5_undo : GoodIn wsL_law (wsV RL 51 RX5 yX5_undo wsX5_undo) := goodIn_app (goodIn_of _ (by decide +kernel)) ggL_law_X5_undo
set_option maxRecDepth 20000 in
theorem ggL_law_X4_saying : GoodIn wsL_law wsX4_saying := goodIn_r _ [554, 23, 472, 103, 148, 149, 150, 2, 151, 33, 152, 73, 74, 31, 75, 76, 67, 68, 77, 78, 53, 79, 153, 154, 155, 156, 71, 69, 157, 158, 159, 160, 161, 162, 163, 164, 165, 70, 166, 167, 168, 169, 170, 171, 172, 173, 174, 175, 176, 177, 178, 179, 180, 181, 182, 183, 184, 185, 186, 187, 188, 189, 190, 191, 192, 193, 194, 195, 196, 197, 198, 199, 200, 201, 202, 203, 204, 205, 206, 207, 208, 209, 210, 211, 212, 213, 214, 215, 216, 217, 218, 219, 220, 680, 681, 682, 683, 684, 685, 686, 687, 688, 689, 720, 721, 722, 723, 724, 725, 729, 730, 731, 732, 733, 734, 735] (by decide +kernel) (by decide +kernel)
set_option maxRecDepth 20000 in
theorem gL_law_X4_saying : GoodIn wsL_law (wsV RL 52 RX4 yX4_saying wsX4_saying) := goodIn_app (goodIn_of _ (by decide +kernel)) ggL_law_X4_saying
set_option maxRecDepth 20000 in
theorem ggL_law_X5_saying : GoodIn wsL_law wsX5_saying := goodIn_r _ [558, 86, 485, 110, 113, 114, 5, 115, 304, 305, 306, 307, 238, 239, 240, 241, 242, 243, 244, 245, 246, 247, 248, 249, 236, 96, 97, 250, 251, 252, 253, 254, 255, 256, 98, 257, 258, 259, 260, 261, 262, 263, 264, 265, 266, 267, 268, 269, 270, 271, 272, 273, 274, 275, 276, 277, 278, 279, 280, 281, 282, 283, 284, 285, 286, 287, 288, 289, 290, 291, 308, 309, 310, 311, 690, 691, 692, 693, 694, 695, 696, 697, 698, 699, 700, 701, 702, 703, 704, 705, 706, 707, 708, 709, 710] (by decide +kernel) (by decide +kernel)
set_option maxRecDepth 20000 in
theorem gL_law_X5_saying : GoodIn wsL_law (wsV RL 56 RX5 yX5_saying wsX5_saying) := goodIn_app (goodIn_of _ (by decide +kernel)) ggL_law_X5_saying
set_option maxRecDepth 20000 in
theorem ggL_law_X4_free : GoodIn wsL_law wsX4_free := goodIn_r _ [562, 32, 563, 564, 565, 680, 681, 682, 683, 684, 685, 686, 687, 688, 689, 729, 730, 731, 732, 733, 734, 735] (by decide +kernel) (by decide +kernel)
set_option maxRecDepth 20000 in
theorem gL_law_X4_free : GoodIn wsL_law (wsV RL 57 RX4 yX4_free wsX4_free) := goodIn_app (goodIn_of _ (by decide +kernel)) ggL_law_X4_free
set_option maxRecDepth 20000 in
theorem ggL_law_X5_free : GoodIn wsL_law wsX5_free := goodIn_r _ [569, 236, 570, 96, 571, 572, 238, 239, 240, 5, 241, 86, 242, 243, 244, 245, 246, 247, 248, 249, 97, 250, 251, 252, 253, 254, 255, 256, 98, 257, 258, 259, 260, 261, 262, 263, 264, 265, 266, 267, 268, 269, 270, 271, 272, 273, 274, 275, 276, 277, 278, 279, 280, 281, 282, 283, 284, 285, 286, 287, 288, 289, 290, 291, 113, 114, 115, 690, 691, 692, 693, 694, 695, 696, 697, 698, 699, 700, 701, 702, 703, 704, 705, 706, 707, 708, 709, 710] (by decide +kernel) (by decide +kernel)
set_option maxRecDepth 20000 in
theorem gL_law_X5_free : GoodIn wsL_law (wsV RL 61 RX5 yX5_free wsX5_free) := goodIn_app (goodIn_of _ (by decide +kernel)) ggL_law_X5_free
set_option maxRecDepth 20000 in
theorem ggL_law_X4_least : GoodIn wsL_law wsX4_least := goodIn_r _ [576, 563, 32, 565, 680, 681, 682, 683, 684, 685, 686, 687, 688, 689, 729, 730, 731, 732, 733, 734, 735] (by decide +kernel) (by decide +kernel)
set_option maxRecDepth 20000 in
theorem gL_law_X4_least : GoodIn wsL_law (wsV RL 62 RX4 yX4_least wsX4_least) := goodIn_app (goodIn_of _ (by decide +kernel)) ggL_law_X4_least
set_option maxRecDepth 20000 in
theorem ggL_law_X5_least : GoodIn wsL_law wsX5_least := goodIn_r _ [580, 570, 97, 571, 581, 582, 5, 583, 113, 114, 115, 498, 499, 500, 238, 239, 240, 241, 86, 242, 243, 244, 245, 246, 247, 248, 249, 236, 96, 250, 251, 252, 253, 254, 255, 256, 98, 257, 258, 259, 260, 261, 262, 263, 264, 265, 266, 267, 268, 269, 270, 271, 272, 273, 274, 275, 276, 277, 278, 279, 280, 281, 282, 283, 284, 285, 286, 287, 288, 289, 290, 291, 690, 691, 692, 693, 694, 695, 696, 697, 698, 699, 700, 701, 702, 703, 704, 705, 706, 707, 708, 709, 710] (by decide +kernel) (by decide +kernel)
set_option maxRecDepth 20000 in
theorem gL_law_X5_least : GoodIn wsL_law (wsV RL 65 RX5 yX5_least wsX5_least) := goodIn_app (goodIn_of _ (by decide +kernel)) ggL_law_X5_least
set_option maxRecDepth 20000 in
theorem ggL_law_X4_isTold : GoodIn wsL_law wsX4_isTold := goodIn_r _ [587, 472, 32, 140, 141, 142, 31, 143, 76, 67, 680, 681, 682, 683, 684, 685, 686, 687, 688, 689, 729, 730, 731, 732, 733, 734, 735] (by decide +kernel) (by decide +kernel)
set_option maxRecDepth 20000 in
theorem gL_law_X4_isTold : GoodIn wsL_law (wsV RL 66 RX4 yX4_isTold wsX4_isTold) := goodIn_app (goodIn_of _ (by decide +kernel)) ggL_law_X4_isTold
set_option maxRecDepth 20000 in
theorem ggL_law_X5_isTold : GoodIn wsL_law wsX5_isTold := goodIn_r _ [591, 485, 581, 582, 5, 583, 113, 114, 115, 238, 239, 240, 241, 86, 242, 243, 244, 245, 246, 247, 248, 249, 236, 96, 97, 250, 251, 252, 253, 254, 255, 256, 98, 257, 258, 259, 260, 261, 262, 263, 264, 265, 266, 267, 268, 269, 270, 271, 272, 273, 274, 275, 276, 277, 278, 279, 280, 281, 282, 283, 284, 285, 286, 287, 288, 289, 290, 291, 296, 297, 298, 299, 690, 691, 692, 693, 694, 695, 696, 697, 698, 699, 700, 701, 702, 703, 704, 705, 706, 707, 708, 709, 710] (by decide +kernel) (by decide +kernel)
set_option maxRecDepth 20000 in
theorem gL_law_X5_isTold : GoodIn wsL_law (wsV RL 69 RX5 yX5_isTold wsX5_isTold) := goodIn_app (goodIn_of _ (by decide +kernel)) ggL_law_X5_isTold
