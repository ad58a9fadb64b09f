set_option maxRecDepth 20000 in
theorem ggL_law_X9_init : GoodIn wsL_law wsX9_init := goodIn_r _ [9, 10, 11, 12, 13, 14, 15, 16, 17, 18, 19, 20, 21, 22, 23, 24, 25, 26, 27, 28, 29, 30, 31, 32, 33, 34, 35, 36, 37, 38, 39, 40, 41, 42, 43, 44, 45, 46, 47, 48, 692, 693, 644, 645, 646, 647, 648, 649, 650, 651, 652, 653, 654, 694, 695, 696, 697, 698, 699, 700, 701, 702, 703] rfl rfl
set_option maxRecDepth 20000 in
theorem gL_law_X9_init : GoodIn wsL_law (wsX9_init) := ggL_law_X9_init
set_option maxRecDepth 20000 in
theorem ggL_law_X10_init : GoodIn wsL_law wsX10_init := goodIn_r _ [51, 52, 11, 12, 40, 53, 54, 55, 56, 57, 58, 59, 60, 61, 62, 63, 64, 65, 66, 67, 68, 69, 70, 71, 72, 73, 655, 656, 657, 658, 659, 660, 661, 662, 663, 664, 665, 666, 667, 668, 669, 670, 671, 672, 673, 674, 675, 676, 677, 678, 679, 680, 681, 682, 683, 684, 685, 686, 687, 688, 689, 690, 691] rfl rfl
set_option maxRecDepth 20000 in
theorem gL_law_X10_init : GoodIn wsL_law (wsX10_init) := ggL_law_X10_init
set_option maxRecDepth 20000 in
theorem ggL_law_X9_feed : GoodIn wsL_law wsX9_feed := goodIn_r _ [77, 16, 78, 79, 80, 15, 81, 82, 83, 84, 85, 86, 35, 644, 645, 646, 647, 648, 649, 650, 651, 652, 653, 654, 692, 693] rfl rfl
set_option maxRecDepth 20000 in
theorem gL_law_X9_feed : GoodIn wsL_law (wsV RL 23 RX9 yX9_feed wsX9_feed) := goodIn_app (goodIn_of _ (by decide +kernel)) ggL_law_X9_feed
set_option maxRecDepth 20000 in
theorem ggL_law_X10_feed : GoodIn wsL_law wsX10_feed := goodIn_r _ [90, 91, 92, 93, 94, 95, 5, 96, 53, 655, 656, 657, 658, 659, 660, 661, 662, 663, 664, 665, 666, 667, 668, 669, 670, 671, 672, 673, 674, 675, 676, 677, 678, 679, 680, 681, 682, 683, 684, 685, 686, 687, 688, 689, 690, 691] rfl rfl
set_option maxRecDepth 20000 in
theorem gL_law_X10_feed : GoodIn wsL_law (wsV RL 27 RX10 yX10_feed wsX10_feed) := goodIn_app (goodIn_of _ (by decide +kernel)) ggL_law_X10_feed
set_option maxRecDepth 20000 in
theorem ggL_law_X9_end : GoodIn wsL_law wsX9_end := goodIn_r _ [100, 16, 101, 102, 103, 15, 104, 82, 105, 2, 106, 644, 645, 646, 647, 648, 649, 650, 651, 652, 653, 654, 692, 693] rfl rfl
set_option maxRecDepth 20000 in
theorem gL_law_X9_end : GoodIn wsL_law (wsV RL 28 RX9 yX9_end wsX9_end) := goodIn_app (goodIn_of _ (by decide +kernel)) ggL_law_X9_end
set_option maxRecDepth 20000 in
theorem ggL_law_X10_end : GoodIn wsL_law wsX10_end := goodIn_r _ [110, 91, 92, 655, 656, 657, 658, 659, 660, 661, 662, 663, 664, 665, 666, 667, 668, 669, 670, 671, 672, 673, 674, 675, 676, 677, 678, 679, 680, 681, 682, 683, 684, 685, 686, 687, 688, 689, 690, 691] rfl rfl
set_option maxRecDepth 20000 in
theorem gL_law_X10_end : GoodIn wsL_law (wsV RL 32 RX10 yX10_end wsX10_end) := goodIn_app (goodIn_of _ (by decide +kernel)) ggL_law_X10_end
set_option maxRecDepth 20000 in
theorem ggL_law_X9_rules : GoodIn wsL_law wsX9_rules := goodIn_r _ [114, 20, 16, 115, 116, 117, 19, 118, 119, 120, 121, 122, 123, 124, 125, 126, 127, 128, 129, 130, 131, 132, 133, 42, 134, 135, 136, 137, 15, 138, 82, 35, 139, 140, 141, 142, 143, 144, 145, 146, 147, 148, 149, 150, 151, 152, 153, 154, 155, 156, 157, 158, 159, 160, 161, 162, 163, 164, 165, 166, 167, 168, 169, 170, 171, 172, 173, 174, 175, 176, 177, 178, 179, 180, 181, 182, 183, 184, 185, 186, 187, 188, 189, 190, 191, 192, 193, 194, 195, 196, 197, 198, 199, 200, 201, 202, 203, 204, 205, 206, 207, 208, 209, 210, 211, 212, 213, 214, 215, 216, 217, 218, 219, 220, 221, 222, 223, 224, 225, 226, 227, 105, 2, 106, 228, 229, 230, 231, 41, 101, 102, 103, 104, 644, 645, 646, 647, 648, 649, 650, 651, 652, 653, 654, 692, 693, 694, 695, 696, 697, 698, 699, 700] rfl rfl
set_option maxRecDepth 20000 in
theorem gL_law_X9_rules : GoodIn wsL_law (wsV RL 33 RX9 yX9_rules wsX9_rules) := goodIn_app (goodIn_of _ (by decide +kernel)) ggL_law_X9_rules
set_option maxRecDepth 20000 in
theorem ggL_law_X10_rules : GoodIn wsL_law wsX10_rules := goodIn_r _ [235, 91, 92, 236, 237, 238, 58, 55, 239, 240, 241, 54, 242, 243, 244, 5, 245, 53, 246, 247, 248, 249, 250, 251, 252, 253, 254, 255, 256, 257, 258, 259, 260, 261, 262, 263, 264, 265, 56, 57, 266, 267, 268, 269, 270, 271, 272, 273, 274, 275, 276, 277, 278, 279, 280, 281, 282, 283, 284, 285, 286, 655, 656, 657, 658, 659, 660, 661, 662, 663, 664, 665, 666, 667, 668, 669, 670, 671, 672, 673, 674, 675, 676, 677, 678, 679, 680, 681, 682, 683, 684, 685, 686, 687, 688, 689, 690, 691] rfl rfl
set_option maxRecDepth 20000 in
theorem gL_law_X10_rules : GoodIn wsL_law (wsV RL 37 RX10 yX10_rules wsX10_rules) := goodIn_app (goodIn_of _ (by decide +kernel)) ggL_law_X10_rules
set_option maxRecDepth 20000 in
theorem ggL_law_X9_fault : GoodIn wsL_law wsX9_fault := goodIn_r _ [290, 20, 644, 645, 646, 647, 648, 649, 650, 651, 652, 653, 654, 694, 695, 696, 697, 698, 699, 700] rfl rfl
set_option maxRecDepth 20000 in
theorem gL_law_X9_fault : GoodIn wsL_law (wsV RL 38 RX9 yX9_fault wsX9_fault) := goodIn_app (goodIn_of _ (by decide +kernel)) ggL_law_X9_fault
set_option maxRecDepth 20000 in
theorem ggL_law_X10_fault : GoodIn wsL_law wsX10_fault := goodIn_r _ [294, 91, 237, 655, 656, 657, 658, 659, 660, 661, 662, 663, 664, 665, 666, 667, 668, 669, 670, 671, 672, 673, 674, 675, 676, 677, 678, 679, 680, 681, 682, 683, 684, 685, 686, 687, 688, 689, 690, 691] rfl rfl
set_option maxRecDepth 20000 in
theorem gL_law_X10_fault : GoodIn wsL_law (wsV RL 41 RX10 yX10_fault wsX10_fault) := goodIn_app (goodIn_of _ (by decide +kernel)) ggL_law_X10_fault
set_option maxRecDepth 20000 in
theorem ggL_law_X9_rule : GoodIn wsL_law wsX9_rule := goodIn_r _ [298, 20, 644, 645, 646, 647, 648, 649, 650, 651, 652, 653, 654, 694, 695, 696, 697, 698, 699, 700] rfl rfl
set_option maxRecDepth 20000 in
theorem gL_law_X9_rule : GoodIn wsL_law (wsV RL 42 RX9 yX9_rule wsX9_rule) := goodIn_app (goodIn_of _ (by decide +kernel)) ggL_law_X9_rule
set_option maxRecDepth 20000 in
theorem ggL_law_X10_rule : GoodIn wsL_law wsX10_rule := goodIn_r _ [302, 91, 54, 655, 656, 657, 658, 659, 660, 661, 662, 663, 664, 665, 666, 667, 668, 669, 670, 671, 672, 673, 674, 675, 676, 677, 678, 679, 680, 681, 682, 683, 684, 685, 686, 687, 688, 689, 690, 691] rfl rfl
set_option maxRecDepth 20000 in
theorem gL_law_X10_rule : GoodIn wsL_law (wsV RL 46 RX10 yX10_rule wsX10_rule) := goodIn_app (goodIn_of _ (by decide +kernel)) ggL_law_X10_rule
set_option maxRecDepth 20000 in
theorem ggL_law_X9_work : GoodIn wsL_law wsX9_work := goodIn_r _ [306, 307, 22, 21, 308, 309, 310, 311, 105, 2, 106, 312, 313, 314, 315, 11, 12, 40, 316, 317, 318, 319, 320, 321, 322, 323, 644, 645, 646, 647, 648, 649, 650, 651, 652, 653, 654, 704, 705, 706, 707, 708, 709, 710, 711] rfl rfl
set_option maxRecDepth 20000 in
theorem gL_law_X9_work : GoodIn wsL_law (wsV RL 47 RX9 yX9_work wsX9_work) := goodIn_app (goodIn_of _ (by decide +kernel)) ggL_law_X9_work
set_option maxRecDepth 20000 in
theorem ggL_law_X10_work : GoodIn wsL_law wsX10_work := goodIn_r _ [327, 91, 328, 59, 60, 61, 63, 329, 62, 330, 331, 5, 332, 655, 656, 657, 658, 659, 660, 661, 662, 663, 664, 665, 666, 667, 668, 669, 670, 671, 672, 673, 674, 675, 676, 677, 678, 679, 680, 681, 682, 683, 684, 685, 686, 687, 688, 689, 690, 691] rfl rfl
set_option maxRecDepth 20000 in
theorem gL_law_X10_work : GoodIn wsL_law (wsV RL 50 RX10 yX10_work wsX10_work) := goodIn_app (goodIn_of _ (by decide +kernel)) ggL_law_X10_work
set_option maxRecDepth 20000 in
theorem ggL_law_X9_person : GoodIn wsL_law wsX9_person := goodIn_r _ [336, 337, 24, 23, 338, 339, 340, 341, 342, 2, 343, 307, 22, 344, 345, 346, 347, 348, 349, 350, 351, 352, 353, 11, 12, 644, 645, 646, 647, 648, 649, 650, 651, 652, 653, 654, 712, 713, 714, 715, 716, 717] rfl rfl
set_option maxRecDepth 20000 in
theorem gL_law_X9_person : GoodIn wsL_law (wsV RL 51 RX9 yX9_person wsX9_person) := goodIn_app (goodIn_of _ (by decide +kernel)) ggL_law_X9_person
set_option maxRecDepth 20000 in
theorem ggL_law_X10_person : GoodIn wsL_law wsX10_person := goodIn_r _ [357, 91, 358, 64, 65, 359, 360, 361, 5, 362, 328, 655, 656, 657, 658, 659, 660, 661, 662, 663, 664, 665, 666, 667, 668, 669, 670, 671, 672, 673, 674, 675, 676, 677, 678, 679, 680, 681, 682, 683, 684, 685, 686, 687, 688, 689, 690, 691] rfl rfl
set_option maxRecDepth 20000 in
theorem gL_law_X10_person : GoodIn wsL_law (wsV RL 54 RX10 yX10_person wsX10_person) := goodIn_app (goodIn_of _ (by decide +kernel)) ggL_law_X10_person
set_option maxRecDepth 20000 in
theorem ggL_law_X9_fund : GoodIn wsL_law wsX9_fund := goodIn_r _ [366, 367, 26, 25, 368, 369, 311, 105, 2, 106, 370, 371, 372, 40, 373, 374, 350, 351, 352, 353, 11, 12, 644, 645, 646, 647, 648, 649, 650, 651, 652, 653, 654, 714, 715, 716, 717] rfl rfl
set_option maxRecDepth 20000 in
theorem gL_law_X9_fund : GoodIn wsL_law (wsV RL 55 RX9 yX9_fund wsX9_fund) := goodIn_app (goodIn_of _ (by decide +kernel)) ggL_law_X9_fund
set_option maxRecDepth 20000 in
theorem ggL_law_X10_fund : GoodIn wsL_law wsX10_fund := goodIn_r _ [378, 91, 379, 66, 330, 331, 5, 332, 655, 656, 657, 658, 659, 660, 661, 662, 663, 664, 665, 666, 667, 668, 669, 670, 671, 672, 673, 674, 675, 676, 677, 678, 679, 680, 681, 682, 683, 684, 685, 686, 687, 688, 689, 690, 691] rfl rfl
set_option maxRecDepth 20000 in
theorem gL_law_X10_fund : GoodIn wsL_law (wsV RL 58 RX10 yX10_fund wsX10_fund) := goodIn_app (goodIn_of _ (by decide +kernel)) ggL_law_X10_fund
set_option maxRecDepth 20000 in
theorem ggL_law_X9_give : GoodIn wsL_law wsX9_give := goodIn_r _ [383, 310, 384, 349, 385, 386, 387, 388, 389, 2, 390, 337, 24, 391, 392, 393, 394, 367, 26, 311, 105, 106, 395, 396, 397, 398, 307, 340, 341, 342, 343, 22, 644, 645, 646, 647, 648, 649, 650, 651, 652, 653, 654, 714, 715, 716, 717, 712, 713, 704, 705, 706, 707, 708, 709, 710, 711] rfl rfl
set_option maxRecDepth 20000 in
theorem gL_law_X9_give : GoodIn wsL_law (wsV RL 59 RX9 yX9_give wsX9_give) := goodIn_app (goodIn_of _ (by decide +kernel)) ggL_law_X9_give
set_option maxRecDepth 20000 in
theorem ggL_law_X10_give : GoodIn wsL_law wsX10_give := goodIn_r _ [402, 91, 329, 64, 67, 68, 403, 404, 405, 5, 406, 358, 407, 408, 409, 410, 379, 411, 412, 413, 414, 328, 69, 61, 655, 656, 657, 658, 659, 660, 661, 662, 663, 664, 665, 666, 667, 668, 669, 670, 671, 672, 673, 674, 675, 676, 677, 678, 679, 680, 681, 682, 683, 684, 685, 686, 687, 688, 689, 690, 691] rfl rfl
