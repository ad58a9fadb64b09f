theorem mem_idx {ws big : List Cond} (ps : List Nat) (h : ws = ps.filterMap (fun i => big[i]?)) : ∀ w ∈ ws, w ∈ big := by
  intro w hw
  rw [h] at hw
  obtain ⟨i, -, hi⟩ := List.mem_filterMap.mp hw
  exact List.mem_of_getElem? hi
set_option maxRecDepth 20000 in
theorem wi_wsL_law0_r1 : ∀ w ∈ wsL_law0_r1, w ∈ lw_tbl := mem_idx [65, 66, 43, 656, 657, 49, 951, 67, 68, 69, 70, 71, 72, 73, 74, 44, 146, 89, 90, 45, 147, 122, 148, 124] rfl
set_option maxRecDepth 20000 in
theorem wi_wsL_law0_r2 : ∀ w ∈ wsL_law0_r2, w ∈ lw_tbl := mem_idx [149, 126, 150, 128, 129, 48, 151, 76, 77, 78, 88, 79, 91, 92, 93, 94, 121, 97, 99, 131, 132, 133, 134, 136] rfl
set_option maxRecDepth 20000 in
theorem wi_wsL_law0_r3 : ∀ w ∈ wsL_law0_r3, w ∈ lw_tbl := mem_idx [138, 658, 659, 660, 661, 663, 665, 666, 667, 668, 669, 679, 680, 681, 682, 683, 684, 685, 686, 687, 688, 689, 690, 691] rfl
set_option maxRecDepth 20000 in
theorem wi_wsL_law0_r4 : ∀ w ∈ wsL_law0_r4, w ∈ lw_tbl := mem_idx [697, 698, 180, 181, 182, 183, 184, 185, 186, 187, 80, 188, 189, 190, 191, 778, 779, 780, 781, 662, 664, 782, 784, 23] rfl
set_option maxRecDepth 20000 in
theorem wi_wsL_law0_r5 : ∀ w ∈ wsL_law0_r5, w ∈ lw_tbl := mem_idx [785, 192, 193, 194, 195, 196, 197, 198, 199, 201, 202, 786, 787, 788, 789, 203, 204, 205, 206, 207, 208, 209, 210, 215] rfl
set_option maxRecDepth 20000 in
theorem wi_wsL_law0_r6 : ∀ w ∈ wsL_law0_r6, w ∈ lw_tbl := mem_idx [216, 50, 217, 103, 237, 238, 239, 101, 105, 100, 211, 213, 0, 214, 102, 218, 219, 220, 221, 222, 223, 224, 225, 226] rfl
set_option maxRecDepth 20000 in
theorem wi_wsL_law0_r7 : ∀ w ∈ wsL_law0_r7, w ∈ lw_tbl := mem_idx [227, 228, 229, 230, 231, 232, 233, 234, 235, 236, 240, 242, 1, 243, 244, 245, 246, 247, 249, 2, 250, 251, 253, 3] rfl
set_option maxRecDepth 20000 in
theorem wi_wsL_law0_r8 : ∀ w ∈ wsL_law0_r8, w ∈ lw_tbl := mem_idx [254, 255, 256, 257, 258, 259, 260, 261, 262, 263, 51, 264, 968, 265, 266, 267, 268, 269, 969, 271, 272, 273, 274, 275] rfl
set_option maxRecDepth 20000 in
theorem wi_wsL_law0_r9 : ∀ w ∈ wsL_law0_r9, w ∈ lw_tbl := mem_idx [276, 277, 278, 279, 280, 52, 281, 282, 283, 284, 285, 287, 288, 53, 289, 290, 291, 54, 292, 293, 294, 295, 296, 297] rfl
set_option maxRecDepth 20000 in
theorem wi_wsL_law0_r10 : ∀ w ∈ wsL_law0_r10, w ∈ lw_tbl := mem_idx [298, 299, 300, 301, 302, 303, 305, 307, 309, 311, 4, 312, 314, 316, 5, 317, 790, 791, 792, 793, 670, 675, 677, 671] rfl
set_option maxRecDepth 20000 in
theorem wi_wsL_law0_r11 : ∀ w ∈ wsL_law0_r11, w ∈ lw_tbl := mem_idx [673, 676, 794, 796, 24, 797, 672, 678, 674, 808, 809, 810, 798, 799, 800, 801, 802, 803, 804, 806, 25, 807, 811, 813] rfl
set_option maxRecDepth 20000 in
theorem wi_wsL_law0_r12 : ∀ w ∈ wsL_law0_r12, w ∈ lw_tbl := mem_idx [26, 814, 815, 817, 27, 818, 819, 823, 828, 829, 830, 831, 820, 821, 822, 824, 826, 28, 827, 832, 834, 29, 835, 318] rfl
set_option maxRecDepth 20000 in
theorem wi_wsL_law0_r13 : ∀ w ∈ wsL_law0_r13, w ∈ lw_tbl := mem_idx [319, 320, 321, 836, 837, 838, 839, 322, 323, 324, 325, 840, 841, 842, 843, 326, 327, 328, 329, 152, 331, 55, 155, 330] rfl
set_option maxRecDepth 20000 in
theorem wi_wsL_law0_r14 : ∀ w ∈ wsL_law0_r14, w ∈ lw_tbl := mem_idx [332, 333, 334, 335, 345, 347, 349, 351, 337, 341, 343, 339, 844, 845, 846, 847, 692, 695, 848, 849, 850, 369, 370, 371] rfl
set_option maxRecDepth 20000 in
theorem wi_wsL_law0_r15 : ∀ w ∈ wsL_law0_r15, w ∈ lw_tbl := mem_idx [372, 153, 377, 57, 373, 375, 6, 376, 378, 379, 380, 385, 387, 388, 382, 56, 383, 384, 851, 852, 853, 854, 693, 855] rfl
set_option maxRecDepth 20000 in
theorem wi_wsL_law0_r16 : ∀ w ∈ wsL_law0_r16, w ∈ lw_tbl := mem_idx [857, 30, 858, 398, 399, 400, 401, 154, 402, 58, 403, 404, 405, 409, 407, 859, 860, 861, 862, 694, 420, 421, 422, 423] rfl
set_option maxRecDepth 20000 in
theorem wi_wsL_law0_r17 : ∀ w ∈ wsL_law0_r17, w ∈ lw_tbl := mem_idx [389, 390, 391, 424, 426, 7, 427, 428, 430, 8, 431, 432, 434, 9, 435, 863, 864, 865, 866, 867, 869, 31, 870, 871] rfl
set_option maxRecDepth 20000 in
theorem wi_wsL_law0_r18 : ∀ w ∈ wsL_law0_r18, w ∈ lw_tbl := mem_idx [873, 32, 874, 875, 877, 33, 878, 436, 437, 438, 439, 392, 440, 442, 10, 443, 879, 880, 881, 882, 883, 885, 34, 886] rfl
set_option maxRecDepth 20000 in
theorem wi_wsL_law0_r19 : ∀ w ∈ wsL_law0_r19, w ∈ lw_tbl := mem_idx [444, 445, 446, 447, 156, 448, 450, 11, 451, 452, 454, 12, 455, 456, 462, 475, 458, 459, 460, 461, 463, 464, 465, 466] rfl
set_option maxRecDepth 20000 in
theorem wi_wsL_law0_r20 : ∀ w ∈ wsL_law0_r20, w ∈ lw_tbl := mem_idx [470, 468, 469, 471, 473, 13, 474, 477, 478, 479, 480, 482, 14, 483, 484, 486, 15, 487, 489, 491, 490, 59, 492, 488] rfl
set_option maxRecDepth 20000 in
theorem wi_wsL_law0_r21 : ∀ w ∈ wsL_law0_r21, w ∈ lw_tbl := mem_idx [494, 496, 16, 497, 498, 500, 502, 503, 505, 506, 507, 508, 887, 888, 889, 890, 696, 891, 893, 35, 894, 895, 897, 36] rfl
set_option maxRecDepth 20000 in
theorem wi_wsL_law0_r22 : ∀ w ∈ wsL_law0_r22, w ∈ lw_tbl := mem_idx [898, 899, 901, 37, 902, 509, 510, 511, 512, 903, 904, 905, 906, 513, 514, 515, 516, 907, 908, 909, 910, 533, 534, 42] rfl
set_option maxRecDepth 20000 in
theorem wi_wsL_law0_r23 : ∀ w ∈ wsL_law0_r23, w ∈ lw_tbl := mem_idx [535, 536, 537, 538, 539, 540, 541, 63, 602, 604, 18, 605, 606, 607, 609, 19, 610, 611, 613, 20, 614, 911, 912, 913] rfl
set_option maxRecDepth 20000 in
theorem wi_wsL_law0_r24 : ∀ w ∈ wsL_law0_r24, w ∈ lw_tbl := mem_idx [914, 915, 917, 38, 918, 919, 921, 39, 922, 923, 774, 775, 776, 777, 517, 518, 519, 520, 521, 522, 523, 524, 924, 925] rfl
set_option maxRecDepth 20000 in
theorem wi_wsL_law0_r25 : ∀ w ∈ wsL_law0_r25, w ∈ lw_tbl := mem_idx [926, 927, 928, 930, 40, 931, 932, 934, 41, 935, 525, 526, 527, 528, 936, 937, 938, 939, 615, 616, 617, 618, 619, 620] rfl
set_option maxRecDepth 20000 in
theorem wi_wsL_law0_r26 : ∀ w ∈ wsL_law0_r26, w ∈ lw_tbl := mem_idx [621, 622, 624, 21, 625, 626, 627, 64, 628, 629, 630, 631, 634, 632, 641, 642, 643, 644, 645, 647, 22, 648, 649, 650] rfl
set_option maxRecDepth 20000 in
theorem wi_wsL_law0_r27 : ∀ w ∈ wsL_law0_r27, w ∈ lw_tbl := mem_idx [651, 652, 653, 654, 655, 940, 941, 942, 943, 944, 945, 946, 529, 530, 531, 532, 947, 948, 949, 950] rfl
set_option maxRecDepth 20000 in
theorem wi_wsX90 : ∀ w ∈ wsX90, w ∈ lw_tbl := mem_idx [157, 159, 161, 163, 165, 167, 169, 171, 173, 175, 177] rfl
set_option maxRecDepth 20000 in
theorem wi_wsX100 : ∀ w ∈ wsX100, w ∈ lw_tbl := mem_idx [699, 701, 703, 705, 707, 709, 711, 713, 715, 717, 719, 721, 723, 725, 727, 729, 731, 733, 735, 737, 739, 741, 743, 745, 747, 749, 751, 753, 755, 757, 759, 761, 763, 765, 767, 769, 771] rfl
set_option maxRecDepth 20000 in
theorem wi_wsX70 : ∀ w ∈ wsX70, w ∈ lw_tbl := mem_idx [83, 85] rfl
set_option maxRecDepth 20000 in
theorem wi_wsX60 : ∀ w ∈ wsX60, w ∈ lw_tbl := mem_idx [106, 108, 110, 112, 114, 116, 118] rfl
set_option maxRecDepth 20000 in
theorem wi_wsX00 : ∀ w ∈ wsX00, w ∈ lw_tbl := mem_idx [139, 141, 143] rfl
set_option maxRecDepth 20000 in
theorem wi_wsX80 : ∀ w ∈ wsX80, w ∈ lw_tbl := mem_idx [352, 354, 356, 358, 360, 362, 364, 366] rfl
set_option maxRecDepth 20000 in
theorem wi_wsX40 : ∀ w ∈ wsX40, w ∈ lw_tbl := mem_idx [395, 393] rfl
set_option maxRecDepth 20000 in
theorem wi_wsX30 : ∀ w ∈ wsX30, w ∈ lw_tbl := mem_idx [418, 412, 414, 416] rfl
set_option maxRecDepth 20000 in
theorem wi_wsX20 : ∀ w ∈ wsX20, w ∈ lw_tbl := mem_idx [636, 638] rfl
theorem wsL_law_in0 : ∀ w ∈ wsL_law0, w ∈ lw_tbl := (List.forall_mem_append.mpr ⟨(List.forall_mem_append.mpr ⟨(List.forall_mem_append.mpr ⟨(List.forall_mem_append.mpr ⟨(List.forall_mem_append.mpr ⟨(List.forall_mem_append.mpr ⟨(List.forall_mem_append.mpr ⟨(List.forall_mem_append.mpr ⟨(List.forall_mem_append.mpr ⟨(List.forall_mem_append.mpr ⟨(List.forall_mem_append.mpr ⟨wi_wsL_law0_r1, (List.forall_mem_append.mpr ⟨wi_wsL_law0_r2, (List.forall_mem_append.mpr ⟨wi_wsL_law0_r3, (List.forall_mem_append.mpr ⟨wi_wsL_law0_r4, (List.forall_mem_append.mpr ⟨wi_wsL_law0_r5, (List.forall_mem_append.mpr ⟨wi_wsL_law0_r6, (List.forall_mem_append.mpr ⟨wi_wsL_law0_r7, (List.forall_mem_append.mpr ⟨wi_wsL_law0_r8, (List.forall_mem_append.mpr ⟨wi_wsL_law0_r9, (List.forall_mem_append.mpr ⟨wi_wsL_law0_r10, (List.forall_mem_append.mpr ⟨wi_wsL_law0_r11, (List.forall_mem_append.mpr ⟨wi_wsL_law0_r12, (List.forall_mem_append.mpr ⟨wi_wsL_law0_r13, (List.forall_mem_append.mpr ⟨wi_wsL_law0_r14, (List.forall_mem_append.mpr ⟨wi_wsL_law0_r15, (List.forall_mem_append.mpr ⟨wi_wsL_law0_r16, (List.forall_mem_append.mpr ⟨wi_wsL_law0_r17, (List.forall_mem_append.mpr ⟨wi_wsL_law0_r18, (List.forall_mem_append.mpr ⟨wi_wsL_law0_r19, (List.forall_mem_append.mpr ⟨wi_wsL_law0_r20, (List.forall_mem_append.mpr ⟨wi_wsL_law0_r21, (List.forall_mem_append.mpr ⟨wi_wsL_law0_r22, (List.forall_mem_append.mpr ⟨wi_wsL_law0_r23, (List.forall_mem_append.mpr ⟨wi_wsL_law0_r24, (List.forall_mem_append.mpr ⟨wi_wsL_law0_r25, (List.forall_mem_append.mpr ⟨wi_wsL_law0_r26, wi_wsL_law0_r27⟩)⟩)⟩)⟩)⟩)⟩)⟩)⟩)⟩)⟩)⟩)⟩)⟩)⟩)⟩)⟩)⟩)⟩)⟩)⟩)⟩)⟩)⟩)⟩)⟩)⟩), wi_wsX90⟩), wi_wsX100⟩), wi_wsX70⟩), wi_wsX60⟩), wi_wsX00⟩), wi_wsX80⟩), wi_wsX40⟩), wi_wsX30⟩), wi_wsX20⟩), fun _ h => nomatch h⟩)
theorem wsL_law_x0 : ∀ w ∈ (vx_at0 RX9 159 "java/util/NoSuchElementException" ["java/lang/RuntimeException", "java/lang/Exception"]).filter goodWord, w ∈ lw_tbl := by decide +kernel
theorem wsL_law_in : ∀ w ∈ wsL_law, w ∈ lw_tbl := fun w h => (List.mem_append.mp h).elim (fun h => wsL_law_in0 w h) (fun h => wsL_law_x0 w h)
theorem inlX0 : ∀ w ∈ wsX00, w ∈ wsL_law := fun _ h => List.mem_append_left _ (List.mem_append_left _ (List.mem_append_left _ (List.mem_append_left _ (List.mem_append_left _ (List.mem_append_left _ (List.mem_append_right _ h))))))
theorem inX0 : ∀ w ∈ wsX00, w ∈ lw_tbl := fun w h => wsL_law_in w (inlX0 w h)
theorem inX1 : ∀ w ∈ wsX10, w ∈ lw_tbl := by decide +kernel
theorem inlX2 : ∀ w ∈ wsX20, w ∈ wsL_law := fun _ h => List.mem_append_left _ (List.mem_append_left _ (List.mem_append_right _ h))
theorem inX2 : ∀ w ∈ wsX20, w ∈ lw_tbl := fun w h => wsL_law_in w (inlX2 w h)
theorem inlX3 : ∀ w ∈ wsX30, w ∈ wsL_law := fun _ h => List.mem_append_left _ (List.mem_append_left _ (List.mem_append_left _ (List.mem_append_right _ h)))
theorem inX3 : ∀ w ∈ wsX30, w ∈ lw_tbl := fun w h => wsL_law_in w (inlX3 w h)
theorem inlX4 : ∀ w ∈ wsX40, w ∈ wsL_law := fun _ h => List.mem_append_left _ (List.mem_append_left _ (List.mem_append_left _ (List.mem_append_left _ (List.mem_append_right _ h))))
theorem inX4 : ∀ w ∈ wsX40, w ∈ lw_tbl := fun w h => wsL_law_in w (inlX4 w h)
theorem inX5 : ∀ w ∈ wsX50, w ∈ lw_tbl := by decide +kernel
theorem inlX6 : ∀ w ∈ wsX60, w ∈ wsL_law := fun _ h => List.mem_append_left _ (List.mem_append_left _ (List.mem_append_left _ (List.mem_append_left _ (List.mem_append_left _ (List.mem_append_left _ (List.mem_append_left _ (List.mem_append_right _ h)))))))
theorem inX6 : ∀ w ∈ wsX60, w ∈ lw_tbl := fun w h => wsL_law_in w (inlX6 w h)
theorem inlX7 : ∀ w ∈ wsX70, w ∈ wsL_law := fun _ h => List.mem_append_left _ (List.mem_append_left _ (List.mem_append_left _ (List.mem_append_left _ (List.mem_append_left _ (List.mem_append_left _ (List.mem_append_left _ (List.mem_append_left _ (List.mem_append_right _ h))))))))
theorem inX7 : ∀ w ∈ wsX70, w ∈ lw_tbl := fun w h => wsL_law_in w (inlX7 w h)
theorem inlX8 : ∀ w ∈ wsX80, w ∈ wsL_law := fun _ h => List.mem_append_left _ (List.mem_append_left _ (List.mem_append_left _ (List.mem_append_left _ (List.mem_append_left _ (List.mem_append_right _ h)))))
theorem inX8 : ∀ w ∈ wsX80, w ∈ lw_tbl := fun w h => wsL_law_in w (inlX8 w h)
theorem inlX9 : ∀ w ∈ wsX90, w ∈ wsL_law := fun _ h => List.mem_append_left _ (List.mem_append_left _ (List.mem_append_left _ (List.mem_append_left _ (List.mem_append_left _ (List.mem_append_left _ (List.mem_append_left _ (List.mem_append_left _ (List.mem_append_left _ (List.mem_append_left _ (List.mem_append_right _ h))))))))))
theorem inX9 : ∀ w ∈ wsX90, w ∈ lw_tbl := fun w h => wsL_law_in w (inlX9 w h)
theorem inlX10 : ∀ w ∈ wsX100, w ∈ wsL_law := fun _ h => List.mem_append_left _ (List.mem_append_left _ (List.mem_append_left _ (List.mem_append_left _ (List.mem_append_left _ (List.mem_append_left _ (List.mem_append_left _ (List.mem_append_left _ (List.mem_append_left _ (List.mem_append_right _ h)))))))))
theorem inX10 : ∀ w ∈ wsX100, w ∈ lw_tbl := fun w h => wsL_law_in w (inlX10 w h)
theorem inJx29ce0 : ∀ w ∈ wsJx29ce00, w ∈ lw_tbl := by decide +kernel
theorem inJ9 : ∀ w ∈ wsJ90, w ∈ lw_tbl := by decide +kernel
theorem inJ0 : ∀ w ∈ wsJ00, w ∈ lw_tbl := by decide +kernel
theorem inJ1 : ∀ w ∈ wsJ10, w ∈ lw_tbl := by decide +kernel
theorem inJ2 : ∀ w ∈ wsJ20, w ∈ lw_tbl := by decide +kernel
theorem inJ10 : ∀ w ∈ wsJ100, w ∈ lw_tbl := by decide +kernel
theorem inJ3 : ∀ w ∈ wsJ30, w ∈ lw_tbl := by decide +kernel

