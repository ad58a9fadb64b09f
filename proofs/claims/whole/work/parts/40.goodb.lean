set_option maxRecDepth 20000 in
theorem gL_law_X10_give : GoodIn wsL_law (wsV RL 63 RX10 yX10_give wsX10_give) := goodIn_app (goodIn_of _ (by decide +kernel)) ggL_law_X10_give
set_option maxRecDepth 20000 in
theorem ggL_law_X9_bid : GoodIn wsL_law wsX9_bid := goodIn_r _ [418, 419, 420, 421, 422, 2, 423, 387, 388, 389, 390, 337, 24, 391, 392, 393, 394, 367, 26, 311, 105, 106, 340, 341, 342, 343, 307, 22, 395, 396, 397, 398, 704, 705, 706, 707, 708, 709, 710, 711, 714, 715, 716, 717, 712, 713, 644, 645, 646, 647, 648, 649, 650, 651, 652, 653, 654] rfl rfl
set_option maxRecDepth 20000 in
theorem gL_law_X9_bid : GoodIn wsL_law (wsV RL 64 RX9 yX9_bid wsX9_bid) := goodIn_app (goodIn_of _ (by decide +kernel)) ggL_law_X9_bid
set_option maxRecDepth 20000 in
theorem ggL_law_X10_bid : GoodIn wsL_law wsX10_bid := goodIn_r _ [427, 91, 69, 61, 64, 428, 429, 430, 5, 431, 403, 404, 405, 406, 358, 407, 408, 409, 410, 379, 359, 360, 361, 362, 328, 330, 331, 332, 411, 412, 413, 414, 655, 656, 657, 658, 659, 660, 661, 662, 663, 664, 665, 666, 667, 668, 669, 670, 671, 672, 673, 674, 675, 676, 677, 678, 679, 680, 681, 682, 683, 684, 685, 686, 687, 688, 689, 690, 691] rfl rfl
set_option maxRecDepth 20000 in
theorem gL_law_X10_bid : GoodIn wsL_law (wsV RL 67 RX10 yX10_bid wsX10_bid) := goodIn_app (goodIn_of _ (by decide +kernel)) ggL_law_X10_bid
set_option maxRecDepth 20000 in
theorem ggL_law_X9_close : GoodIn wsL_law wsX9_close := goodIn_r _ [435, 310, 307, 436, 437, 438, 439, 2, 440, 340, 341, 342, 343, 22, 441, 442, 443, 444, 30, 20, 445, 446, 120, 121, 122, 447, 387, 388, 389, 390, 337, 24, 448, 449, 450, 19, 451, 41, 452, 453, 454, 29, 455, 46, 456, 47, 48, 457, 458, 459, 460, 461, 462, 463, 464, 465, 466, 467, 468, 469, 419, 420, 421, 422, 423, 391, 392, 393, 394, 367, 26, 311, 105, 106, 470, 471, 472, 473, 474, 475, 476, 477, 478, 479, 480, 481, 482, 483, 484, 485, 486, 125, 126, 487, 488, 489, 490, 309, 491, 316, 319, 317, 318, 322, 644, 645, 646, 647, 648, 649, 650, 651, 652, 653, 654, 704, 705, 706, 707, 708, 709, 710, 711, 701, 702, 703, 712, 713, 694, 695, 696, 697, 698, 699, 700, 714, 715, 716, 717] rfl rfl
set_option maxRecDepth 20000 in
theorem gL_law_X9_close : GoodIn wsL_law (wsV RL 68 RX9 yX9_close wsX9_close) := goodIn_app (goodIn_of _ (by decide +kernel)) ggL_law_X9_close
set_option maxRecDepth 20000 in
theorem ggL_law_X10_close : GoodIn wsL_law wsX10_close := goodIn_r _ [495, 91, 329, 71, 70, 328, 60, 69, 62, 61, 496, 497, 498, 499, 5, 500, 72, 358, 65, 59, 54, 501, 502, 503, 504, 73, 505, 506, 507, 508, 64, 655, 656, 657, 658, 659, 660, 661, 662, 663, 664, 665, 666, 667, 668, 669, 670, 671, 672, 673, 674, 675, 676, 677, 678, 679, 680, 681, 682, 683, 684, 685, 686, 687, 688, 689, 690, 691] rfl rfl
set_option maxRecDepth 20000 in
theorem gL_law_X10_close : GoodIn wsL_law (wsV RL 71 RX10 yX10_close wsX10_close) := goodIn_app (goodIn_of _ (by decide +kernel)) ggL_law_X10_close
set_option maxRecDepth 20000 in
theorem ggL_law_X9_about : GoodIn wsL_law wsX9_about := goodIn_r _ [512, 340, 341, 342, 2, 343, 307, 22, 479, 457, 458, 704, 705, 706, 707, 708, 709, 710, 711, 644, 645, 646, 647, 648, 649, 650, 651, 652, 653, 654] rfl rfl
set_option maxRecDepth 20000 in
theorem gL_law_X9_about : GoodIn wsL_law (wsV RL 72 RX9 yX9_about wsX9_about) := goodIn_app (goodIn_of _ (by decide +kernel)) ggL_law_X9_about
set_option maxRecDepth 20000 in
theorem ggL_law_X10_about : GoodIn wsL_law wsX10_about := goodIn_r _ [516, 91, 69, 59, 60, 61, 359, 360, 361, 5, 362, 328, 655, 656, 657, 658, 659, 660, 661, 662, 663, 664, 665, 666, 667, 668, 669, 670, 671, 672, 673, 674, 675, 676, 677, 678, 679, 680, 681, 682, 683, 684, 685, 686, 687, 688, 689, 690, 691] rfl rfl
set_option maxRecDepth 20000 in
theorem gL_law_X10_about : GoodIn wsL_law (wsV RL 75 RX10 yX10_about wsX10_about) := goodIn_app (goodIn_of _ (by decide +kernel)) ggL_law_X10_about
set_option maxRecDepth 20000 in
theorem ggL_law_X9_price : GoodIn wsL_law wsX9_price := goodIn_r _ [520, 310, 340, 341, 342, 2, 343, 307, 22, 311, 105, 106, 704, 705, 706, 707, 708, 709, 710, 711, 644, 645, 646, 647, 648, 649, 650, 651, 652, 653, 654] rfl rfl
set_option maxRecDepth 20000 in
theorem gL_law_X9_price : GoodIn wsL_law (wsV RL 76 RX9 yX9_price wsX9_price) := goodIn_app (goodIn_of _ (by decide +kernel)) ggL_law_X9_price
set_option maxRecDepth 20000 in
theorem ggL_law_X10_price : GoodIn wsL_law wsX10_price := goodIn_r _ [524, 91, 63, 329, 62, 359, 360, 361, 5, 362, 328, 655, 656, 657, 658, 659, 660, 661, 662, 663, 664, 665, 666, 667, 668, 669, 670, 671, 672, 673, 674, 675, 676, 677, 678, 679, 680, 681, 682, 683, 684, 685, 686, 687, 688, 689, 690, 691] rfl rfl
set_option maxRecDepth 20000 in
theorem gL_law_X10_price : GoodIn wsL_law (wsV RL 79 RX10 yX10_price wsX10_price) := goodIn_app (goodIn_of _ (by decide +kernel)) ggL_law_X10_price
set_option maxRecDepth 20000 in
theorem ggL_law_L_purse : GoodIn wsL_law wsL_purse := goodIn_ca (goodIn_r _ [528, 529, 530, 531, 532, 2, 533, 534, 535, 419, 420, 421, 422, 423, 387, 388, 389, 390, 337, 24, 391, 392, 393, 394, 367, 26, 311, 105, 106, 395, 396, 397, 398, 307, 340, 341, 342, 343, 22, 536, 537, 538, 539, 540, 385, 386, 541, 542, 543, 544, 545, 546, 547, 548, 714, 715, 716, 717, 712, 713, 644, 645, 646, 647, 648, 649, 650, 651, 652, 653, 654, 704, 705, 706, 707, 708, 709, 710, 711] rfl rfl) (goodIn_sub (fun _ h => List.mem_append_right _ h) (by decide +kernel))
set_option maxRecDepth 20000 in
theorem gL_law_L_purse : GoodIn wsL_law (va_wsS RL 80 yL_purse wsL_purse) := goodIn_app (goodIn_of _ (by decide +kernel)) ggL_law_L_purse
set_option maxRecDepth 20000 in
theorem ggL_law_X10_purse : GoodIn wsL_law wsX10_purse := goodIn_r _ [552, 91, 328, 70, 64, 67, 428, 429, 430, 5, 431, 403, 404, 405, 406, 358, 407, 408, 409, 410, 379, 553, 554, 555, 556, 411, 412, 413, 414, 69, 61, 557, 558, 559, 560, 561, 66, 655, 656, 657, 658, 659, 660, 661, 662, 663, 664, 665, 666, 667, 668, 669, 670, 671, 672, 673, 674, 675, 676, 677, 678, 679, 680, 681, 682, 683, 684, 685, 686, 687, 688, 689, 690, 691] rfl rfl
set_option maxRecDepth 20000 in
theorem gL_law_X10_purse : GoodIn wsL_law (wsV RL 85 RX10 yX10_purse wsX10_purse) := goodIn_app (goodIn_of _ (by decide +kernel)) ggL_law_X10_purse
set_option maxRecDepth 20000 in
theorem ggL_law_X10_thrown : GoodIn wsL_law wsX10_thrown := goodIn_r _ [565, 91, 655, 656, 657, 658, 659, 660, 661, 662, 663, 664, 665, 666, 667, 668, 669, 670, 671, 672, 673, 674, 675, 676, 677, 678, 679, 680, 681, 682, 683, 684, 685, 686, 687, 688, 689, 690, 691] rfl rfl
set_option maxRecDepth 20000 in
theorem gL_law_X10_thrown : GoodIn wsL_law (wsV RL 86 RX10 yX10_thrown wsX10_thrown) := goodIn_app (goodIn_of _ (by decide +kernel)) ggL_law_X10_thrown
set_option maxRecDepth 20000 in
theorem ggL_law_X9_holds : GoodIn wsL_law wsX9_holds := goodIn_r _ [569, 310, 340, 341, 342, 2, 343, 307, 22, 420, 421, 422, 423, 387, 388, 389, 390, 337, 24, 391, 392, 393, 394, 367, 26, 311, 105, 106, 570, 571, 572, 309, 573, 319, 644, 645, 646, 647, 648, 649, 650, 651, 652, 653, 654, 704, 705, 706, 707, 708, 709, 710, 711] rfl rfl
set_option maxRecDepth 20000 in
theorem gL_law_X9_holds : GoodIn wsL_law (wsV RL 89 RX9 yX9_holds wsX9_holds) := goodIn_app (goodIn_of _ (by decide +kernel)) ggL_law_X9_holds
set_option maxRecDepth 20000 in
theorem ggL_law_X10_holds : GoodIn wsL_law wsX10_holds := goodIn_r _ [577, 91, 428, 429, 430, 5, 431, 403, 404, 405, 406, 358, 407, 408, 409, 410, 379, 359, 360, 361, 362, 328, 578, 579, 580, 581, 329, 582, 583, 584, 585, 70, 71, 655, 656, 657, 658, 659, 660, 661, 662, 663, 664, 665, 666, 667, 668, 669, 670, 671, 672, 673, 674, 675, 676, 677, 678, 679, 680, 681, 682, 683, 684, 685, 686, 687, 688, 689, 690, 691] rfl rfl
set_option maxRecDepth 20000 in
theorem gL_law_X10_holds : GoodIn wsL_law (wsV RL 92 RX10 yX10_holds wsX10_holds) := goodIn_app (goodIn_of _ (by decide +kernel)) ggL_law_X10_holds
set_option maxRecDepth 20000 in
theorem ggL_law_X9_asks : GoodIn wsL_law wsX9_asks := goodIn_r _ [589, 340, 341, 342, 2, 343, 307, 22, 420, 421, 422, 423, 387, 388, 389, 390, 337, 24, 391, 392, 393, 394, 367, 26, 311, 105, 106, 704, 705, 706, 707, 708, 709, 710, 711, 644, 645, 646, 647, 648, 649, 650, 651, 652, 653, 654] rfl rfl
set_option maxRecDepth 20000 in
theorem gL_law_X9_asks : GoodIn wsL_law (wsV RL 93 RX9 yX9_asks wsX9_asks) := goodIn_app (goodIn_of _ (by decide +kernel)) ggL_law_X9_asks
set_option maxRecDepth 20000 in
theorem ggL_law_X10_asks : GoodIn wsL_law wsX10_asks := goodIn_r _ [593, 91, 69, 428, 429, 430, 5, 431, 403, 404, 405, 406, 358, 407, 408, 409, 410, 379, 359, 360, 361, 362, 328, 655, 656, 657, 658, 659, 660, 661, 662, 663, 664, 665, 666, 667, 668, 669, 670, 671, 672, 673, 674, 675, 676, 677, 678, 679, 680, 681, 682, 683, 684, 685, 686, 687, 688, 689, 690, 691] rfl rfl
set_option maxRecDepth 20000 in
theorem gL_law_X10_asks : GoodIn wsL_law (wsV RL 96 RX10 yX10_asks wsX10_asks) := goodIn_app (goodIn_of _ (by decide +kernel)) ggL_law_X10_asks
set_option maxRecDepth 20000 in
theorem ggL_law_L_owned : GoodIn wsL_law wsL_owned := goodIn_ca (goodIn_r _ [596, 529, 597, 598, 599, 2, 600, 534, 535, 310, 340, 341, 342, 343, 307, 22, 387, 388, 389, 390, 337, 24, 311, 105, 106, 601, 602, 603, 604, 605, 606, 607, 367, 570, 571, 572, 309, 573, 319, 608, 609, 610, 611, 11, 12, 612, 613, 391, 392, 393, 394, 26, 614, 615, 616, 617, 618, 619, 620, 621, 622, 623, 624, 625, 626, 627, 628, 644, 645, 646, 647, 648, 649, 650, 651, 652, 653, 654, 718, 719, 714, 715, 716, 717, 704, 705, 706, 707, 708, 709, 710, 711] rfl rfl) (goodIn_sub (fun _ h => List.mem_append_right _ h) (by decide +kernel))
set_option maxRecDepth 20000 in
theorem gL_law_L_owned : GoodIn wsL_law (va_wsS RL 97 yL_owned wsL_owned) := goodIn_app (goodIn_of _ (by decide +kernel)) ggL_law_L_owned
set_option maxRecDepth 20000 in
theorem ggL_law_X10_owned : GoodIn wsL_law wsX10_owned := goodIn_r _ [632, 91, 379, 68, 67, 59, 403, 404, 405, 5, 406, 358, 359, 360, 361, 362, 328, 578, 579, 580, 581, 329, 553, 554, 555, 556, 582, 583, 584, 585, 70, 71, 633, 634, 635, 655, 656, 657, 658, 659, 660, 661, 662, 663, 664, 665, 666, 667, 668, 669, 670, 671, 672, 673, 674, 675, 676, 677, 678, 679, 680, 681, 682, 683, 684, 685, 686, 687, 688, 689, 690, 691] rfl rfl
set_option maxRecDepth 20000 in
theorem gL_law_X10_owned : GoodIn wsL_law (wsV RL 100 RX10 yX10_owned wsX10_owned) := goodIn_app (goodIn_of _ (by decide +kernel)) ggL_law_X10_owned
set_option maxRecDepth 20000 in
theorem ggL_law_X9_count : GoodIn wsL_law wsX9_count := goodIn_r _ [639, 310, 307, 337, 367, 436, 16, 644, 645, 646, 647, 648, 649, 650, 651, 652, 653, 654, 692, 693] rfl rfl
set_option maxRecDepth 20000 in
theorem gL_law_X9_count : GoodIn wsL_law (wsV RL 101 RX9 yX9_count wsX9_count) := goodIn_app (goodIn_of _ (by decide +kernel)) ggL_law_X9_count
set_option maxRecDepth 20000 in
theorem ggL_law_X10_count : GoodIn wsL_law wsX10_count := goodIn_r _ [643, 91, 329, 328, 358, 379, 496, 92, 655, 656, 657, 658, 659, 660, 661, 662, 663, 664, 665, 666, 667, 668, 669, 670, 671, 672, 673, 674, 675, 676, 677, 678, 679, 680, 681, 682, 683, 684, 685, 686, 687, 688, 689, 690, 691] rfl rfl
set_option maxRecDepth 20000 in
theorem gL_law_X10_count : GoodIn wsL_law (wsV RL 104 RX10 yX10_count wsX10_count) := goodIn_app (goodIn_of _ (by decide +kernel)) ggL_law_X10_count
